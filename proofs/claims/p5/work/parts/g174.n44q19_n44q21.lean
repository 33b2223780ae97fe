section q_n44q19
/-! p5: the class: the validator of stack and blocks as lists (top first) -/
def stA (ty : Nat → Int32) : List Nat → Prop
  | [] => True
  | x :: S => (ty S.length).toInt = (x : Int) ∧ stA ty S
def blA (bo bg bh bd : Nat → Int32) : List zBl → Prop
  | [] => True
  | b :: B => ((bo B.length).toInt = (b.1 : Int) ∧ (bg B.length).toInt = (b.2.1 : Int) ∧ (bh B.length).toInt = (b.2.2.1 : Int) ∧ (bd B.length).toInt = (if b.2.2.2 = true then 1 else 0)) ∧ blA bo bg bh bd B
def hgB : List zBl → Nat → Prop
  | [], _ => True
  | b :: B, n => b.2.2.1 ≤ n ∧ hgB B b.2.2.1
def vA (S : List Nat) (B : List zBl) (h D : Int32) (ty bo bg bh bd : Nat → Int32) : Prop := (S.length : Int) = h.toInt ∧ (B.length : Int) = D.toInt ∧ stA ty S ∧ blA bo bg bh bd B ∧ hgB B S.length
theorem stA_upd {ty : Nat → Int32} {k : Nat} {v : Int32} : ∀ {S : List Nat}, stA ty S → S.length ≤ k → stA (upd ty k v) S := by
  intro S
  induction S with
  | nil => intros; trivial
  | cons x S ih =>
    intro h hk
    rw [List.length_cons] at hk
    exact ⟨by rw [pk_un (show S.length ≠ k by (first | (apply Int.le_antisymm <;> omega) | omega))]; exact h.1, ih h.2 (by (first | (apply Int.le_antisymm <;> omega) | omega))⟩
theorem stA_drop {ty : Nat → Int32} : ∀ (n : Nat) {S : List Nat}, stA ty S → stA ty (S.drop n) := by
  intro n
  induction n with
  | zero => intro S h; exact h
  | succ n ih =>
    intro S h
    cases S with
    | nil => exact h
    | cons x S => exact ih h.2
theorem hgB_up {n m : Nat} : ∀ {B : List zBl}, hgB B n → n ≤ m → hgB B m := by
  intro B h hm
  cases B with
  | nil => trivial
  | cons b B => exact ⟨Nat.le_trans h.1 hm, h.2⟩
theorem blA_upd {bo bg bh bd : Nat → Int32} {k : Nat} {v1 v2 v3 v4 : Int32} : ∀ {B : List zBl}, blA bo bg bh bd B → B.length ≤ k → blA (upd bo k v1) (upd bg k v2) (upd bh k v3) (upd bd k v4) B := by
  intro B
  induction B with
  | nil => intros; trivial
  | cons b B ih =>
    intro h hk
    rw [List.length_cons] at hk
    have e : B.length ≠ k := by (first | (apply Int.le_antisymm <;> omega) | omega)
    refine ⟨?_, ih h.2 (by (first | (apply Int.le_antisymm <;> omega) | omega))⟩
    rw [pk_un e, pk_un e, pk_un e, pk_un e]
    exact h.1
theorem blA_d {bo bg bh bd : Nat → Int32} {k : Nat} {v : Int32} : ∀ {B : List zBl}, blA bo bg bh bd B → B.length ≤ k → blA bo bg bh (upd bd k v) B := by
  intro B
  induction B with
  | nil => intros; trivial
  | cons b B ih =>
    intro h hk
    rw [List.length_cons] at hk
    refine ⟨?_, ih h.2 (by (first | (apply Int.le_antisymm <;> omega) | omega))⟩
    rw [pk_un (show B.length ≠ k by (first | (apply Int.le_antisymm <;> omega) | omega))]
    exact h.1
theorem blA_get {bo bg bh bd : Nat → Int32} : ∀ {B : List zBl} {n : Nat} {b : zBl}, blA bo bg bh bd B → B[n]? = some b → (bo (B.length - 1 - n)).toInt = (b.1 : Int) ∧ (bg (B.length - 1 - n)).toInt = (b.2.1 : Int) := by
  intro B
  induction B with
  | nil => intro n b _ h; cases h
  | cons x B ih =>
    intro n b h hn
    cases n with
    | zero =>
      have e : x = b := Option.some.inj hn
      subst e
      rw [show (x :: B).length - 1 - 0 = B.length from rfl]
      exact ⟨h.1.1, h.1.2.1⟩
    | succ n =>
      have e : B[n]? = some b := hn
      have h2 := (List.getElem?_eq_some_iff.mp e).1
      rw [show (x :: B).length - 1 - (n + 1) = B.length - 1 - n by rw [List.length_cons]; (first | (apply Int.le_antisymm <;> omega) | omega)]
      exact ih h.2 e
section VY
variable {S : List Nat} {B : List zBl} {s s1 s2 h h1 h2 D D2 r w : Int32} {ty bo bg bh bd : Nat → Int32}
/-- popAny -/
def vpz (S : List Nat) (B : List zBl) (s s2 h2 D r : Int32) (ty bo bg bh bd : Nat → Int32) : Prop := ∃ S2 : List Nat, (s2.toInt = 1 ∧ s.toInt = 1 ∧ 0 ≤ r.toInt ∧ vpop S B = some (r.toInt.toNat, S2) ∧ vA S2 B h2 D ty bo bg bh bd) ∨ (s2.toInt = 0 ∧ (s.toInt = 1 → vpop S B = none))
theorem pa_1 (hv : s.toInt = 1 → vA S B h D ty bo bg bh bd) (hs : s.toInt = 0 ∨ s.toInt = 1) (hD : 0 < D.toInt) (hb : (bh (D.toInt - 1).toNat).toInt < h.toInt) (hh : h2.toInt = h.toInt - 1) (hr : r = ty h2.toNatClampNeg) (h0 : 0 ≤ h2.toInt) : vpz S B s s h2 D r ty bo bg bh bd := by
  rcases hs with q | q
  · exact ⟨[], Or.inr ⟨q, fun z => absurd z (by (first | (apply Int.le_antisymm <;> omega) | omega))⟩⟩
  · obtain ⟨v1, v2, v3, v4, v5⟩ := hv q
    have k0 := i32_clamp h0
    cases B with
    | nil => rw [List.length_nil] at v2; (first | (apply Int.le_antisymm <;> omega) | omega)
    | cons b B =>
      rw [List.length_cons] at v2
      cases S with
      | nil =>
        rw [List.length_nil] at v1
        have := v4.1.2.2.1
        rw [show B.length = (D.toInt - 1).toNat by (first | (apply Int.le_antisymm <;> omega) | omega)] at this
        (first | (apply Int.le_antisymm <;> omega) | omega)
      | cons x S =>
        rw [List.length_cons] at v1
        have e1 : B.length = (D.toInt - 1).toNat := by (first | (apply Int.le_antisymm <;> omega) | omega)
        have e2 := v4.1.2.2.1
        rw [e1] at e2
        have e3 : (ty S.length).toInt = (x : Int) := v3.1
        rw [show S.length = h2.toNatClampNeg by (first | (apply Int.le_antisymm <;> omega) | omega), ← hr] at e3
        refine ⟨S, Or.inl ⟨q, q, by (first | (apply Int.le_antisymm <;> omega) | omega), ?_, by (first | (apply Int.le_antisymm <;> omega) | omega), by rw [List.length_cons]; (first | (apply Int.le_antisymm <;> omega) | omega), v3.2, v4, ?_⟩⟩
        · unfold vpop
          dsimp only
          rw [if_pos (by rw [List.length_cons]; (first | (apply Int.le_antisymm <;> omega) | omega)), show r.toInt.toNat = x by (first | (apply Int.le_antisymm <;> omega) | omega)]
          rfl
        · exact ⟨by (first | (apply Int.le_antisymm <;> omega) | omega), v5.2⟩
theorem pa_2 (hv : s.toInt = 1 → vA S B h D ty bo bg bh bd) (hs : s.toInt = 0 ∨ s.toInt = 1) (hp : ¬ (0 < D.toInt ∧ (bh (D.toInt - 1).toNat).toInt < h.toInt)) (c : (s2.toInt = 1 ∧ s.toInt = 1 ∧ 0 < D.toInt ∧ (bd (D.toInt - 1).toNat).toInt ≠ 0) ∨ (s2.toInt = 0 ∧ ¬ (s.toInt = 1 ∧ 0 < D.toInt ∧ (bd (D.toInt - 1).toNat).toInt ≠ 0))) (hr : r.toInt = 0) : vpz S B s s2 h D r ty bo bg bh bd := by
  rcases hs with q | q
  · exact ⟨[], Or.inr ⟨by (first | (apply Int.le_antisymm <;> omega) | omega), fun z => absurd z (by (first | (apply Int.le_antisymm <;> omega) | omega))⟩⟩
  · obtain ⟨v1, v2, v3, v4, v5⟩ := hv q
    cases B with
    | nil =>
      rw [List.length_nil] at v2
      exact ⟨[], Or.inr ⟨by (first | (apply Int.le_antisymm <;> omega) | omega), fun _ => rfl⟩⟩
    | cons b B =>
      rw [List.length_cons] at v2
      have e1 : B.length = (D.toInt - 1).toNat := by (first | (apply Int.le_antisymm <;> omega) | omega)
      have e2 := v4.1.2.2.1
      have e3 := v4.1.2.2.2
      rw [e1] at e2 e3
      have e4 : ¬ b.2.2.1 < S.length := by (first | (apply Int.le_antisymm <;> omega) | omega)
      by_cases w : b.2.2.2 = true
      · rw [if_pos w] at e3
        refine ⟨S, Or.inl ⟨by (first | (apply Int.le_antisymm <;> omega) | omega), q, by (first | (apply Int.le_antisymm <;> omega) | omega), ?_, v1, by rw [List.length_cons]; (first | (apply Int.le_antisymm <;> omega) | omega), v3, v4, v5⟩⟩
        unfold vpop
        dsimp only
        rw [if_neg e4, if_pos w, show r.toInt.toNat = 0 by (first | (apply Int.le_antisymm <;> omega) | omega)]
      · rw [if_neg w] at e3
        refine ⟨[], Or.inr ⟨by (first | (apply Int.le_antisymm <;> omega) | omega), fun _ => ?_⟩⟩
        unfold vpop
        dsimp only
        rw [if_neg e4, if_neg w]
/-- pop -/
def vwz (o : Option (List Nat)) (B : List zBl) (s s2 h2 D : Int32) (ty bo bg bh bd : Nat → Int32) : Prop := ∃ S2 : List Nat, (s2.toInt = 1 ∧ s.toInt = 1 ∧ o = some S2 ∧ vA S2 B h2 D ty bo bg bh bd) ∨ (s2.toInt = 0 ∧ (s.toInt = 1 → o = none))
theorem ypw_0 (hv : s.toInt = 1 → vA S B h D ty bo bg bh bd) (hs : s.toInt = 0 ∨ s.toInt = 1) (hw : w.toInt = 64) : vwz (vpw w.toInt.toNat S B) B s s h D ty bo bg bh bd := by
  rcases hs with q | q
  · exact ⟨[], Or.inr ⟨q, fun z => absurd z (by (first | (apply Int.le_antisymm <;> omega) | omega))⟩⟩
  · refine ⟨S, Or.inl ⟨q, q, ?_, hv q⟩⟩
    unfold vpw
    rw [if_pos (by (first | (apply Int.le_antisymm <;> omega) | omega))]
theorem pw_1 (x : vpz S B s s1 h2 D r ty bo bg bh bd) (hw0 : s.toInt = 1 → 0 ≤ w.toInt) (hw : w.toInt ≠ 64) (c : (s2.toInt = 1 ∧ s1.toInt = 1 ∧ (r.toInt = w.toInt ∨ r.toInt = 0)) ∨ (s2.toInt = 0 ∧ ¬ (s1.toInt = 1 ∧ (r.toInt = w.toInt ∨ r.toInt = 0)))) : vwz (vpw w.toInt.toNat S B) B s s2 h2 D ty bo bg bh bd := by
  obtain ⟨S2, ⟨x1, x2, x3, x4, x5⟩ | ⟨x1, x2⟩⟩ := x
  · have := hw0 x2
    have e : vpw w.toInt.toNat S B = if r.toInt.toNat = w.toInt.toNat ∨ r.toInt.toNat = 0 then some S2 else none := by
      unfold vpw
      rw [if_neg (by (first | (apply Int.le_antisymm <;> omega) | omega)), x4]
    rcases c with ⟨c1, c2, c3⟩ | ⟨c1, c2⟩
    · exact ⟨S2, Or.inl ⟨c1, x2, by rw [e, if_pos (by (first | (apply Int.le_antisymm <;> omega) | omega))], x5⟩⟩
    · exact ⟨[], Or.inr ⟨c1, fun _ => by rw [e, if_neg (by (first | (apply Int.le_antisymm <;> omega) | omega))]⟩⟩
  · refine ⟨[], Or.inr ⟨by (first | (apply Int.le_antisymm <;> omega) | omega), fun z => ?_⟩⟩
    have := hw0 z
    unfold vpw
    rw [if_neg (by (first | (apply Int.le_antisymm <;> omega) | omega)), x2 z]
theorem vwz_1 {o : Option (List Nat)} (h : vwz o B s s2 h2 D ty bo bg bh bd) : ∃ S2 : List Nat, ((s2.toInt = 1 ∧ s.toInt = 1 ∧ o = some S2) ∨ (s2.toInt = 0 ∧ (s.toInt = 1 → o = none))) ∧ (s2.toInt = 1 → vA S2 B h2 D ty bo bg bh bd) := by
  obtain ⟨S2, ⟨x1, x2, x3, x4⟩ | ⟨x1, x2⟩⟩ := h
  · exact ⟨S2, Or.inl ⟨x1, x2, x3⟩, fun _ => x4⟩
  · exact ⟨S2, Or.inr ⟨x1, x2⟩, fun z => absurd z (by (first | (apply Int.le_antisymm <;> omega) | omega))⟩
theorem vpz_1 (h : vpz S B s s2 h2 D r ty bo bg bh bd) : ∃ S2 : List Nat, ((s2.toInt = 1 ∧ s.toInt = 1 ∧ 0 ≤ r.toInt ∧ vpop S B = some (r.toInt.toNat, S2)) ∨ (s2.toInt = 0 ∧ (s.toInt = 1 → vpop S B = none))) ∧ (s2.toInt = 1 → vA S2 B h2 D ty bo bg bh bd) := by
  obtain ⟨S2, ⟨x1, x2, x3, x4, x5⟩ | ⟨x1, x2⟩⟩ := h
  · exact ⟨S2, Or.inl ⟨x1, x2, x3, x4⟩, fun _ => x5⟩
  · exact ⟨S2, Or.inr ⟨x1, x2⟩, fun z => absurd z (by (first | (apply Int.le_antisymm <;> omega) | omega))⟩
/-- push -/
theorem ps_0 (hv : vA S B h D ty bo bg bh bd) (hw : w.toInt = 64) : vA (vps w.toInt.toNat S) B h D ty bo bg bh bd := by
  unfold vps
  rw [if_pos (by (first | (apply Int.le_antisymm <;> omega) | omega))]
  exact hv
theorem ps_1 (hv : vA S B h D ty bo bg bh bd) (hw0 : 0 ≤ w.toInt) (hw : w.toInt ≠ 64) (hh : h2.toInt = h.toInt + 1) (h0 : 0 ≤ h.toInt) : vA (vps w.toInt.toNat S) B h2 D (upd ty h.toNatClampNeg w) bo bg bh bd := by
  unfold vps
  rw [if_neg (by (first | (apply Int.le_antisymm <;> omega) | omega))]
  obtain ⟨v1, v2, v3, v4, v5⟩ := hv
  have k0 := i32_clamp h0
  have e : h.toNatClampNeg = S.length := by (first | (apply Int.le_antisymm <;> omega) | omega)
  refine ⟨by rw [List.length_cons]; (first | (apply Int.le_antisymm <;> omega) | omega), v2, ⟨?_, stA_upd v3 (by (first | (apply Int.le_antisymm <;> omega) | omega))⟩, v4, hgB_up v5 (by rw [List.length_cons]; (first | (apply Int.le_antisymm <;> omega) | omega))⟩
  rw [e, pk_us]
  (first | (apply Int.le_antisymm <;> omega) | omega)
/-- open -/
theorem op_1 {p q : Int32} {v : Int32} (hv : vA S B h D ty bo bg bh bd) (hp : 0 ≤ p.toInt) (hq : 0 ≤ q.toInt) (hD : D2.toInt = D.toInt + 1) (h0 : 0 ≤ D.toInt) (hz : v.toInt = 0) : vA S ((p.toInt.toNat, q.toInt.toNat, S.length, false) :: B) h D2 ty (upd bo D.toNatClampNeg p) (upd bg D.toNatClampNeg q) (upd bh D.toNatClampNeg h) (upd bd D.toNatClampNeg v) := by
  obtain ⟨v1, v2, v3, v4, v5⟩ := hv
  have k0 := i32_clamp h0
  have e : D.toNatClampNeg = B.length := by (first | (apply Int.le_antisymm <;> omega) | omega)
  refine ⟨v1, by rw [List.length_cons]; (first | (apply Int.le_antisymm <;> omega) | omega), v3, ⟨?_, blA_upd v4 (by (first | (apply Int.le_antisymm <;> omega) | omega))⟩, Nat.le_refl _, v5⟩
  rw [e, pk_us, pk_us, pk_us, pk_us]
  refine ⟨by (try dsimp only); (first | (apply Int.le_antisymm <;> omega) | omega), by (try dsimp only); (first | (apply Int.le_antisymm <;> omega) | omega), by (try dsimp only); (first | (apply Int.le_antisymm <;> omega) | omega), ?_⟩
  rw [hz]
  rfl
/-- die -/
theorem di_0 (hv : vA S B h D ty bo bg bh bd) (hD : D.toInt ≤ 0) : vA (vdie S B).1 (vdie S B).2 h D ty bo bg bh bd := by
  have v2 := hv.2.1
  cases B with
  | nil => exact hv
  | cons b B => rw [List.length_cons] at v2; (first | (apply Int.le_antisymm <;> omega) | omega)
theorem di_1 {v : Int32} (hv : vA S B h D ty bo bg bh bd) (hD : 0 < D.toInt) (hh : h2.toInt = (bh (D.toInt - 1).toNat).toInt) (hz : v.toInt = 1) : h2.toInt ≤ h.toInt ∧ vA (vdie S B).1 (vdie S B).2 h2 D ty bo bg bh (upd bd (D.toInt - 1).toNat v) := by
  obtain ⟨v1, v2, v3, v4, v5⟩ := hv
  cases B with
  | nil => rw [List.length_nil] at v2; (first | (apply Int.le_antisymm <;> omega) | omega)
  | cons b B =>
    rw [List.length_cons] at v2
    have e1 : (D.toInt - 1).toNat = B.length := by (first | (apply Int.le_antisymm <;> omega) | omega)
    have e2 := v4.1.2.2.1
    rw [e1] at hh ⊢
    have e5 : b.2.2.1 ≤ S.length := v5.1
    refine ⟨by (first | (apply Int.le_antisymm <;> omega) | omega), ?_, by show ((B.length + 1 : Nat) : Int) = D.toInt; (first | (apply Int.le_antisymm <;> omega) | omega), stA_drop _ v3, ⟨?_, blA_d v4.2 (Nat.le_refl _)⟩, ?_, v5.2⟩
    · show ((S.drop (S.length - b.2.2.1)).length : Int) = h2.toInt
      rw [List.length_drop]
      (first | (apply Int.le_antisymm <;> omega) | omega)
    · rw [pk_us]
      refine ⟨v4.1.1, v4.1.2.1, v4.1.2.2.1, ?_⟩
      rw [hz]
      rfl
    · show b.2.2.1 ≤ (S.drop (S.length - b.2.2.1)).length
      rw [List.length_drop]
      (first | (apply Int.le_antisymm <;> omega) | omega)
/-- close -/
def clz (S : List Nat) (B : List zBl) (s s2 h2 D2 : Int32) (ty bo bg bh bd : Nat → Int32) : Prop := ∃ (S2 : List Nat) (b : zBl) (r : List zBl), (s2.toInt = 1 ∧ s.toInt = 1 ∧ vclose S B = some (S2, b, r) ∧ B = b :: r ∧ vA S2 r h2 D2 ty bo bg bh bd) ∨ (s2.toInt = 0 ∧ (s.toInt = 1 → vclose S B = none))
theorem cl_0 (hs : s.toInt = 0) : clz S B s s h D ty bo bg bh bd := ⟨[], (0, 0, 0, false), [], Or.inr ⟨hs, fun z => absurd z (by (first | (apply Int.le_antisymm <;> omega) | omega))⟩⟩
theorem cl_g (hv : s.toInt = 1 → vA S B h D ty bo bg bh bd) (hD : 0 < D.toInt) : s.toInt = 1 → 0 ≤ (bg (D.toInt - 1).toNat).toInt := by
  intro q
  obtain ⟨v1, v2, v3, v4, v5⟩ := hv q
  cases B with
  | nil => rw [List.length_nil] at v2; (first | (apply Int.le_antisymm <;> omega) | omega)
  | cons b B =>
    rw [List.length_cons] at v2
    have e2 := v4.1.2.1
    rw [show B.length = (D.toInt - 1).toNat by (first | (apply Int.le_antisymm <;> omega) | omega)] at e2
    (first | (apply Int.le_antisymm <;> omega) | omega)
theorem cl_1 {g : Int32} (hv : s.toInt = 1 → vA S B h D ty bo bg bh bd) (hD : 0 < D.toInt) (hg : g = bg (D.toInt - 1).toNat) (x : vwz (vpw g.toInt.toNat S B) B s s1 h2 D ty bo bg bh bd) (c : (s2.toInt = 1 ∧ s1.toInt = 1 ∧ h2.toInt = (bh (D.toInt - 1).toNat).toInt) ∨ (s2.toInt = 0 ∧ ¬ (s1.toInt = 1 ∧ h2.toInt = (bh (D.toInt - 1).toNat).toInt))) (hd : D2.toInt = D.toInt - 1) (hs : s.toInt = 0 ∨ s.toInt = 1) : clz S B s s2 h2 D2 ty bo bg bh bd := by
  rcases hs with q | q
  · obtain ⟨S2, ⟨x1, x2, x3, x4⟩ | ⟨x1, x2⟩⟩ := x
    · (first | (apply Int.le_antisymm <;> omega) | omega)
    · exact ⟨[], (0, 0, 0, false), [], Or.inr ⟨by (first | (apply Int.le_antisymm <;> omega) | omega), fun z => absurd z (by (first | (apply Int.le_antisymm <;> omega) | omega))⟩⟩
  · obtain ⟨v1, v2, v3, v4, v5⟩ := hv q
    cases B with
    | nil => rw [List.length_nil] at v2; (first | (apply Int.le_antisymm <;> omega) | omega)
    | cons b B =>
      rw [List.length_cons] at v2
      have e1 : (D.toInt - 1).toNat = B.length := by (first | (apply Int.le_antisymm <;> omega) | omega)
      rw [e1] at hg c
      have e2 := v4.1.2.1
      have e3 := v4.1.2.2.1
      have eg : g.toInt.toNat = b.2.1 := by rw [hg]; (first | (apply Int.le_antisymm <;> omega) | omega)
      have ez : vclose S (b :: B) = (match vpw g.toInt.toNat S (b :: B) with
        | some S2 => if S2.length = b.2.2.1 then some (S2, b, B) else none
        | none => none) := by
        rw [eg]
        rfl
      obtain ⟨S2, ⟨x1, x2, x3, x4⟩ | ⟨x1, x2⟩⟩ := x
      · rw [x3] at ez
        dsimp only at ez
        obtain ⟨w1, w2, w3, w4, w5⟩ := x4
        rcases c with ⟨c1, c2, c3⟩ | ⟨c1, c2⟩
        · have el : S2.length = b.2.2.1 := by (first | (apply Int.le_antisymm <;> omega) | omega)
          rw [if_pos el] at ez
          refine ⟨S2, b, B, Or.inl ⟨c1, q, ez, rfl, w1, by (first | (apply Int.le_antisymm <;> omega) | omega), w3, w4.2, ?_⟩⟩
          rw [el]
          exact w5.2
        · rw [if_neg (by (first | (apply Int.le_antisymm <;> omega) | omega))] at ez
          exact ⟨[], b, [], Or.inr ⟨c1, fun _ => ez⟩⟩
      · rw [x2 q] at ez
        exact ⟨[], b, [], Or.inr ⟨by (first | (apply Int.le_antisymm <;> omega) | omega), fun _ => ez⟩⟩
theorem clz_1 (h : clz S B s s2 h2 D2 ty bo bg bh bd) : ∃ (S2 : List Nat) (b : zBl) (r : List zBl), ((s2.toInt = 1 ∧ s.toInt = 1 ∧ vclose S B = some (S2, b, r) ∧ B = b :: r) ∨ (s2.toInt = 0 ∧ (s.toInt = 1 → vclose S B = none))) ∧ (s2.toInt = 1 → vA S2 r h2 D2 ty bo bg bh bd) := by
  obtain ⟨S2, b, r, ⟨x1, x2, x3, x4, x5⟩ | ⟨x1, x2⟩⟩ := h
  · exact ⟨S2, b, r, Or.inl ⟨x1, x2, x3, x4⟩, fun _ => x5⟩
  · exact ⟨S2, b, r, Or.inr ⟨x1, x2⟩, fun z => absurd z (by (first | (apply Int.le_antisymm <;> omega) | omega))⟩
/-- labelType -/
def lbz (B : List zBl) (n : Nat) (s s2 r : Int32) : Prop := (s2.toInt = 1 ∧ s.toInt = 1 ∧ 0 ≤ r.toInt ∧ vlab B n = some r.toInt.toNat) ∨ (s2.toInt = 0 ∧ (s.toInt = 1 → vlab B n = none))
theorem lb_0 {p : Int32} (hv : s.toInt = 1 → vA S B h D ty bo bg bh bd) (h2 : s2.toInt = 0) (hp : D.toInt ≤ p.toInt) : lbz B p.toInt.toNat s s2 r := by
  refine Or.inr ⟨h2, fun q => ?_⟩
  have v2 := (hv q).2.1
  unfold vlab
  rw [List.getElem?_eq_none (by (first | (apply Int.le_antisymm <;> omega) | omega))]
theorem lb_1 {p : Int32} (hv : s.toInt = 1 → vA S B h D ty bo bg bh bd) (hs : s.toInt = 0 ∨ s.toInt = 1) (hp : p.toInt < D.toInt) (hp0 : 0 ≤ p.toInt) (hr : ((bo (D.toInt - 1 - p.toInt).toNat).toInt = 3 ∧ r.toInt = 64) ∨ ((bo (D.toInt - 1 - p.toInt).toNat).toInt ≠ 3 ∧ r.toInt = (bg (D.toInt - 1 - p.toInt).toNat).toInt)) : lbz B p.toInt.toNat s s r := by
  rcases hs with q | q
  · exact Or.inr ⟨q, fun z => absurd z (by (first | (apply Int.le_antisymm <;> omega) | omega))⟩
  · obtain ⟨v1, v2, v3, v4, v5⟩ := hv q
    have hl : p.toInt.toNat < B.length := by (first | (apply Int.le_antisymm <;> omega) | omega)
    have e := List.getElem?_eq_getElem hl
    obtain ⟨g1, g2⟩ := blA_get v4 e
    rw [show B.length - 1 - p.toInt.toNat = (D.toInt - 1 - p.toInt).toNat by (first | (apply Int.le_antisymm <;> omega) | omega)] at g1 g2
    refine Or.inl ⟨q, q, by (first | (apply Int.le_antisymm <;> omega) | omega), ?_⟩
    unfold vlab
    rw [e]
    dsimp only
    rcases hr with ⟨r1, r2⟩ | ⟨r1, r2⟩
    · rw [if_pos (by (first | (apply Int.le_antisymm <;> omega) | omega)), show r.toInt.toNat = 64 by (first | (apply Int.le_antisymm <;> omega) | omega)]
    · rw [if_neg (by (first | (apply Int.le_antisymm <;> omega) | omega)), show r.toInt.toNat = (B[p.toInt.toNat]).2.1 by (first | (apply Int.le_antisymm <;> omega) | omega)]
end VY
end q_n44q19
section q_n44q20
/-! p5: the class: small methods of the validator -/
abbrev at_VA_popAnyy (dC : Nat → ClassId) (dI : Nat → Nat → Nat) (h0 aw ac ty bo bg bh bd : Nat) (cty cbo cbg cbh cbd : ClassId) (h0_function : Int32) (h0_depth : Int32) (gty : Nat → Int32) (gbo : Nat → Int32) (gbg : Nat → Int32) (gbh : Nat → Int32) (gbd : Nat → Int32) (A : Nat → Prop) (u : Int32 × Int32) (t : State) : Prop := match u with | (h0_height, h0_sound) => va_P (dC, dI) cls (wz_86 h0 aw ac h0_sound h0_function ty h0_height bo bg bh bd h0_depth ty cty gty bo cbo gbo bg cbg gbg bh cbh gbh bd cbd gbd) t.heap ∧ va_K (dC, dI) cls [(cty, .int), (cbo, .int), (cbg, .int), (cbh, .int), (cbd, .boolean)] t ∧ va_D A (wz_86 h0 aw ac h0_sound h0_function ty h0_height bo bg bh bd h0_depth ty cty gty bo cbo gbo bg cbg gbg bh cbh gbh bd cbd gbd)
set_option maxHeartbeats 4000000 in
set_option maxRecDepth 100000 in
theorem c_VA_popAnyy (l : Launch) (dC : Nat → ClassId) (dI : Nat → Nat → Nat) (sz : Nat) (h0 aw ac ty bo bg bh bd : Nat) (cty cbo cbg cbh cbd : ClassId) (h0_sound : Int32) (h0_function : Int32) (h0_height : Int32) (h0_depth : Int32) (gty : Nat → Int32) (gbo : Nat → Int32) (gbg : Nat → Int32) (gbh : Nat → Int32) (gbd : Nat → Int32) (S9 : List Nat) (B9 : List zBl)  (b_h0_sound : h0_sound = 0 ∨ h0_sound = 1) (b_h0_height : 0 ≤ h0_height.toInt ∧ h0_height.toInt ≤ 5000) (b_h0_depth : 0 ≤ h0_depth.toInt ∧ h0_depth.toInt ≤ 101) (b_gty : ∀ j : Nat, (gty j).toInt ≠ 64) (b_gbh : ∀ j : Nat, 0 ≤ (gbh j).toInt ∧ (gbh j).toInt ≤ 5000)   (hv : h0_sound.toInt = 1 → vA S9 B9 h0_height h0_depth gty gbo gbg gbh gbd) : Met l y_VA_popAny w_VA_popAny ({ frames := 0, cells := 0, slots := 0, locals := 0 }) (va_Pc [.ref h0] (fun U => U.heap.size = sz ∧ va_P (dC, dI) cls (wz_86 h0 aw ac h0_sound h0_function ty h0_height bo bg bh bd h0_depth ty cty gty bo cbo gbo bg cbg gbg bh cbh gbh bd cbd gbd) U.heap ∧ va_K (dC, dI) cls [(cty, .int), (cbo, .int), (cbg, .int), (cbh, .int), (cbd, .boolean)] U ∧ va_D (fun _ => True) (wz_86 h0 aw ac h0_sound h0_function ty h0_height bo bg bh bd h0_depth ty cty gty bo cbo gbo bg cbg gbg bh cbh gbh bd cbd gbd))) (va_Qi (fun (r : Int32) (u : Int32 × Int32) => match u with | (h0_height2, h0_sound2) => (0 ≤ h0_height2.toInt ∧ h0_height2.toInt ≤ 5000) ∧ (h0_sound2 = 0 ∨ h0_sound2 = 1) ∧ (h0_height2.toInt ≤ h0_height.toInt ∧ r.toInt ≠ 64 ∧ vpz S9 B9 h0_sound h0_sound2 h0_height2 h0_depth r gty gbo gbg gbh gbd)) (at_VA_popAnyy dC dI h0 aw ac ty bo bg bh bd cty cbo cbg cbh cbd h0_function h0_depth gty gbo gbg gbh gbd (va_A (wz_86 h0 aw ac h0_sound h0_function ty h0_height bo bg bh bd h0_depth ty cty gty bo cbo gbo bg cbg gbg bh cbh gbh bd cbd gbd) sz)) (va_A (wz_86 h0 aw ac h0_sound h0_function ty h0_height bo bg bh bd h0_depth ty cty gty bo cbo gbo bg cbg gbg bh cbh gbh bd cbd gbd) sz)) 0 0 (va_A (wz_86 h0 aw ac h0_sound h0_function ty h0_height bo bg bh bd h0_depth ty cty gty bo cbo gbo bg cbg gbg bh cbh gbh bd cbd gbd) sz) := by
  refine Met.ofW (cc := b_VA_popAny) (maxL := 1) (ret := (Option.some .int)) (by decide) rfl ?_
  intro p e s m args below meth c s₁ B hml hv
  obtain ⟨rfl, hsz, hP, hK, hD0⟩ := hv
  have hx := B.exec
  have hb := B.bytes
  have hr := B.returns
  have hts0 := atoms_spec (ws := w_VA_popAny) B.pre
  have hts : ∀ w ∈ lw_g, w.before _ s = true := fun w h => hts0 w (List.mem_cons_of_mem _ h)
  have hown : s.vm.findClass R_VA = some m.cls := findClass_of_methodNamed B.named
  have hlocks := B.notSynchronized
  clear hts0
  subst hsz
  have hD := hD0.self (sz := s.heap.size)
  generalize hAe : va_A (wz_86 h0 aw ac h0_sound h0_function ty h0_height bo bg bh bd h0_depth ty cty gty bo cbo gbo bg cbg gbg bh cbh gbh bd cbd gbd) s.heap.size = A at hD ⊢
  have hA : ∀ q : Nat, s.heap.size ≤ q → A q := fun q h => by rw [← hAe]; exact Or.inr h
  clear hAe
  have hP : va_P (dC, dI) cls (wz_86 h0 aw ac h0_sound h0_function ty h0_height bo bg bh bd h0_depth ty cty gty bo cbo gbo bg cbg gbg bh cbh gbh bd cbd gbd) s.heap := hP
  have hl := lv_entry ([.ref h0]) (n := 1) (Nat.le_of_ble_eq_true rfl)
  rw [lg_entry_eq]
  generalize (lg_sl ([.ref h0]) ++ List.replicate (1 - (lg_sl ([.ref h0])).length) Slot.unset).toArray = ls at hl ⊢
  have hl : lv_has ls 1 [(0, .ref h0)] := hl
  have k0 : (0 : Int32).toInt = 0 := by decide
  refine w_gen (A := A) hP (fun H locs hP hS => ?_)
  have k1 : (1 : Int32).toInt = 1 := by decide
  have th0_sound := b01 b_h0_sound
  refine lv_aload_n hx hb d_VA_popAny_0 rfl (lv_at hl 0 rfl) ?_
  refine va_get (D := (dC, dI)) (ci := 9) (v := .int h0_depth) (C := R_VA) (T := F_VA) (N := 11) hx hb hts i_VA hown hK hP 0 rfl rfl 10 (by decide) (hts _ kF_VA_117) (fun _ h9 => h9) rfl d_VA_popAny_1 ?_
  refine lv_if_le (tgt := 45) hx hb d_VA_popAny_4 (by decide) (fun c4 => ?_) (fun c4 => ?_)
  · have q4 := leI c4
    refine lv_aload_n hx hb d_VA_popAny_45 rfl (lv_at hl 0 rfl) ?_
    refine lv_aload_n hx hb d_VA_popAny_46 rfl (lv_at hl 0 rfl) ?_
    refine va_get (D := (dC, dI)) (ci := 9) (v := .int h0_sound) (C := R_VA) (T := F_VA) (N := 11) hx hb hts i_VA hown hK hP 0 rfl rfl 2 (by decide) (hts _ kF_VA_39) (fun _ h9 => h9) rfl d_VA_popAny_47 ?_
    refine w_cut (pc2 := 79) (σ := Int32) (fun u H locs ls => match u with | j79_s0 => (j79_s0 = 0 ∨ j79_s0 = 1) ∧ ((j79_s0.toInt = 1 ∧ h0_sound.toInt = 1 ∧ 0 < h0_depth.toInt ∧ (gbd (h0_depth.toInt - 1).toNat).toInt ≠ 0) ∨ (j79_s0.toInt = 0 ∧ ¬ (h0_sound.toInt = 1 ∧ 0 < h0_depth.toInt ∧ (gbd (h0_depth.toInt - 1).toNat).toInt ≠ 0))) ∧ va_P (dC, dI) cls (wz_86 h0 aw ac h0_sound h0_function ty h0_height bo bg bh bd h0_depth ty cty gty bo cbo gbo bg cbg gbg bh cbh gbh bd cbd gbd) H ∧ va_D A (wz_86 h0 aw ac h0_sound h0_function ty h0_height bo bg bh bd h0_depth ty cty gty bo cbo gbo bg cbg gbg bh cbh gbh bd cbd gbd) ∧ va_S A s.heap H locs ∧ lv_has ls 1 []) (fun u => match u with | j79_s0 => [.int j79_s0, .ref h0]) ?_ (fun jn79 => ?_)
    · intro u H locs ls hI
      obtain ⟨j79_s0, rfl⟩ : ∃ z, z = u := ⟨_, rfl⟩
      obtain ⟨b_j79_s0, y79, hP, hD, hS, hl⟩ := hI
      have tj79_s0 := b01 b_j79_s0
      refine va_put (D := (dC, dI)) (ci := 9) (v := .int j79_s0) (ty := .boolean) (C := R_VA) (T := F_VA) (N := 11) hx hb hts i_VA t_VA t_VA_ok n_VA hown hK hP hD hS 0 rfl rfl 2 (by decide) (hts _ kF_VA_39) (fun _ h9 => h9) rfl (by decide +kernel) (zn01 (b_j79_s0)) (fz01 (b_j79_s0)) (Nat.le_of_ble_eq_true rfl) d_VA_popAny_79 (fun H locs hP hD hS => ?_)
      refine lv_iconst (v := 0) hx hb d_VA_popAny_82 (by decide) ?_
      have hP9 := hP.sb (wq := (wz_86 h0 aw ac j79_s0 h0_function ty h0_height bo bg bh bd h0_depth ty cty gty bo cbo gbo bg cbg gbg bh cbh gbh bd cbd gbd)) [0, 1, 2, 3, 4, 5] rfl
      have hD9 := hD.sb (wq := (wz_86 h0 aw ac j79_s0 h0_function ty h0_height bo bg bh bd h0_depth ty cty gty bo cbo gbo bg cbg gbg bh cbh gbh bd cbd gbd)) [0, 1, 2, 3, 4, 5] (by decide) rfl
      exact W.iret (v := 0) hx hb hr (fun t ht hW => ⟨⟨0, (h0_height, j79_s0), rfl, ⟨b_h0_height, b_j79_s0, ⟨by (try dsimp only) <;> (first | (apply Int.le_antisymm <;> omega) | omega), by (try dsimp only) <;> (first | (apply Int.le_antisymm <;> omega) | omega), pa_2 hv th0_sound (by (first | (apply Int.le_antisymm <;> omega) | omega)) y79 (by decide)⟩⟩, va_P.he ht.symm hP9, va_K.moved hW.alike hK, hD9⟩, hS.F ht⟩) hS.2.2 d_VA_popAny_83
    · skip
      refine lv_if_eq (tgt := 78) hx hb d_VA_popAny_50 (by decide) (fun c50 => ?_) (fun c50 => ?_)
      · have q50 := eqI c50
        refine lv_iconst (v := 0) hx hb d_VA_popAny_78 (by decide) ?_
        exact jn79 0 _ _ _ ⟨Or.inl rfl, by (try dsimp only) <;> (first | (apply Int.le_antisymm <;> omega) | omega), hP, hD, hS, lv_sub hl [] rfl⟩
      · have q50 := neI c50
        refine lv_aload_n hx hb d_VA_popAny_53 rfl (lv_at hl 0 rfl) ?_
        refine va_get (D := (dC, dI)) (ci := 9) (v := .int h0_depth) (C := R_VA) (T := F_VA) (N := 11) hx hb hts i_VA hown hK hP 0 rfl rfl 10 (by decide) (hts _ kF_VA_117) (fun _ h9 => h9) rfl d_VA_popAny_54 ?_
        refine lv_if_le (tgt := 78) hx hb d_VA_popAny_57 (by decide) (fun c57 => ?_) (fun c57 => ?_)
        · have q57 := leI c57
          refine lv_iconst (v := 0) hx hb d_VA_popAny_78 (by decide) ?_
          exact jn79 0 _ _ _ ⟨Or.inl rfl, by (try dsimp only) <;> (first | (apply Int.le_antisymm <;> omega) | omega), hP, hD, hS, lv_sub hl [] rfl⟩
        · have q57 := nleI c57
          refine lv_aload_n hx hb d_VA_popAny_60 rfl (lv_at hl 0 rfl) ?_
          refine va_get (D := (dC, dI)) (ci := 9) (v := .ref bd) (C := R_VA) (T := F_VA) (N := 11) hx hb hts i_VA hown hK hP 0 rfl rfl 9 (by decide) (hts _ kF_VA_24) (fun _ h9 => h9) rfl d_VA_popAny_61 ?_
          refine lv_aload_n hx hb d_VA_popAny_64 rfl (lv_at hl 0 rfl) ?_
          refine va_get (D := (dC, dI)) (ci := 9) (v := .int h0_depth) (C := R_VA) (T := F_VA) (N := 11) hx hb hts i_VA hown hK hP 0 rfl rfl 10 (by decide) (hts _ kF_VA_117) (fun _ h9 => h9) rfl d_VA_popAny_65 ?_
          refine lv_iconst (v := 1) hx hb d_VA_popAny_68 (by decide) ?_
          refine lv_isub hx hb d_VA_popAny_69 ?_
          refine lv_topi (fun x1 ex1 => ?_)
          have tx1 : x1.toInt = h0_depth.toInt - 1 := by have z := i32_sub ex1 (by (first | (apply Int.le_antisymm <;> omega) | omega)) (by (first | (apply Int.le_antisymm <;> omega) | omega)); first | exact z | (first | (apply Int.le_antisymm <;> omega) | omega)
          have g70 : vp_in x1 101 := vp_in_iff.mpr ⟨by (first | (apply Int.le_antisymm <;> omega) | omega), by (first | (apply Int.le_antisymm <;> omega) | omega)⟩
          refine va_zald hx hb hK hP 5 4 rfl rfl g70 d_VA_popAny_70 ?_
          refine lv_topi (fun x2 ex2 => ?_)
          rw [i32_natI (x := x1) (n := h0_depth.toInt - 1) (by (first | (apply Int.le_antisymm <;> omega) | omega))] at ex2
          have ux2 : x2.toInt = (gbd (h0_depth.toInt - 1).toNat).toInt := by rw [ex2]
          refine lv_if_eq (tgt := 78) hx hb d_VA_popAny_71 (by decide) (fun c71 => ?_) (fun c71 => ?_)
          · have q71 := eqI c71
            refine lv_iconst (v := 0) hx hb d_VA_popAny_78 (by decide) ?_
            exact jn79 0 _ _ _ ⟨Or.inl rfl, by (try dsimp only) <;> (first | (apply Int.le_antisymm <;> omega) | omega), hP, hD, hS, lv_sub hl [] rfl⟩
          · have q71 := neI c71
            refine lv_iconst (v := 1) hx hb d_VA_popAny_74 (by decide) ?_
            refine lv_goto (tgt := 79) hx hb d_VA_popAny_75 (by decide) ?_
            exact jn79 1 _ _ _ ⟨Or.inr rfl, by (try dsimp only) <;> (first | (apply Int.le_antisymm <;> omega) | omega), hP, hD, hS, lv_sub hl [] rfl⟩
  · have q4 := nleI c4
    refine lv_aload_n hx hb d_VA_popAny_7 rfl (lv_at hl 0 rfl) ?_
    refine va_get (D := (dC, dI)) (ci := 9) (v := .int h0_height) (C := R_VA) (T := F_VA) (N := 11) hx hb hts i_VA hown hK hP 0 rfl rfl 5 (by decide) (hts _ kF_VA_114) (fun _ h9 => h9) rfl d_VA_popAny_8 ?_
    refine lv_aload_n hx hb d_VA_popAny_11 rfl (lv_at hl 0 rfl) ?_
    refine va_get (D := (dC, dI)) (ci := 9) (v := .ref bh) (C := R_VA) (T := F_VA) (N := 11) hx hb hts i_VA hown hK hP 0 rfl rfl 8 (by decide) (hts _ kF_VA_21) (fun _ h9 => h9) rfl d_VA_popAny_12 ?_
    refine lv_aload_n hx hb d_VA_popAny_15 rfl (lv_at hl 0 rfl) ?_
    refine va_get (D := (dC, dI)) (ci := 9) (v := .int h0_depth) (C := R_VA) (T := F_VA) (N := 11) hx hb hts i_VA hown hK hP 0 rfl rfl 10 (by decide) (hts _ kF_VA_117) (fun _ h9 => h9) rfl d_VA_popAny_16 ?_
    refine lv_iconst (v := 1) hx hb d_VA_popAny_19 (by decide) ?_
    refine lv_isub hx hb d_VA_popAny_20 ?_
    refine lv_topi (fun x3 ex3 => ?_)
    have tx3 : x3.toInt = h0_depth.toInt - 1 := by have z := i32_sub ex3 (by (first | (apply Int.le_antisymm <;> omega) | omega)) (by (first | (apply Int.le_antisymm <;> omega) | omega)); first | exact z | (first | (apply Int.le_antisymm <;> omega) | omega)
    have g21 : vp_in x3 101 := vp_in_iff.mpr ⟨by (first | (apply Int.le_antisymm <;> omega) | omega), by (first | (apply Int.le_antisymm <;> omega) | omega)⟩
    refine va_iald hx hb hK hP 4 3 rfl rfl g21 d_VA_popAny_21 ?_
    refine lv_topi (fun x4 ex4 => ?_)
    have tx4 := b_gbh x3.toNatClampNeg
    rw [← ex4] at tx4
    rw [i32_natI (x := x3) (n := h0_depth.toInt - 1) (by (first | (apply Int.le_antisymm <;> omega) | omega))] at ex4
    have ux4 : x4.toInt = (gbh (h0_depth.toInt - 1).toNat).toInt := by rw [ex4]
    refine lv_icmp_le (tgt := 45) hx hb d_VA_popAny_22 (by decide) (fun c22 => ?_) (fun c22 => ?_)
    · have q22 := leI c22
      refine lv_aload_n hx hb d_VA_popAny_45 rfl (lv_at hl 0 rfl) ?_
      refine lv_aload_n hx hb d_VA_popAny_46 rfl (lv_at hl 0 rfl) ?_
      refine va_get (D := (dC, dI)) (ci := 9) (v := .int h0_sound) (C := R_VA) (T := F_VA) (N := 11) hx hb hts i_VA hown hK hP 0 rfl rfl 2 (by decide) (hts _ kF_VA_39) (fun _ h9 => h9) rfl d_VA_popAny_47 ?_
      refine w_cut (pc2 := 79) (σ := Int32) (fun u H locs ls => match u with | j79_s0 => (j79_s0 = 0 ∨ j79_s0 = 1) ∧ ((j79_s0.toInt = 1 ∧ h0_sound.toInt = 1 ∧ 0 < h0_depth.toInt ∧ (gbd (h0_depth.toInt - 1).toNat).toInt ≠ 0) ∨ (j79_s0.toInt = 0 ∧ ¬ (h0_sound.toInt = 1 ∧ 0 < h0_depth.toInt ∧ (gbd (h0_depth.toInt - 1).toNat).toInt ≠ 0))) ∧ va_P (dC, dI) cls (wz_86 h0 aw ac h0_sound h0_function ty h0_height bo bg bh bd h0_depth ty cty gty bo cbo gbo bg cbg gbg bh cbh gbh bd cbd gbd) H ∧ va_D A (wz_86 h0 aw ac h0_sound h0_function ty h0_height bo bg bh bd h0_depth ty cty gty bo cbo gbo bg cbg gbg bh cbh gbh bd cbd gbd) ∧ va_S A s.heap H locs ∧ lv_has ls 1 []) (fun u => match u with | j79_s0 => [.int j79_s0, .ref h0]) ?_ (fun jn79 => ?_)
      · intro u H locs ls hI
        obtain ⟨j79_s0, rfl⟩ : ∃ z, z = u := ⟨_, rfl⟩
        obtain ⟨b_j79_s0, y79, hP, hD, hS, hl⟩ := hI
        have tj79_s0 := b01 b_j79_s0
        refine va_put (D := (dC, dI)) (ci := 9) (v := .int j79_s0) (ty := .boolean) (C := R_VA) (T := F_VA) (N := 11) hx hb hts i_VA t_VA t_VA_ok n_VA hown hK hP hD hS 0 rfl rfl 2 (by decide) (hts _ kF_VA_39) (fun _ h9 => h9) rfl (by decide +kernel) (zn01 (b_j79_s0)) (fz01 (b_j79_s0)) (Nat.le_of_ble_eq_true rfl) d_VA_popAny_79 (fun H locs hP hD hS => ?_)
        refine lv_iconst (v := 0) hx hb d_VA_popAny_82 (by decide) ?_
        have hP9 := hP.sb (wq := (wz_86 h0 aw ac j79_s0 h0_function ty h0_height bo bg bh bd h0_depth ty cty gty bo cbo gbo bg cbg gbg bh cbh gbh bd cbd gbd)) [0, 1, 2, 3, 4, 5] rfl
        have hD9 := hD.sb (wq := (wz_86 h0 aw ac j79_s0 h0_function ty h0_height bo bg bh bd h0_depth ty cty gty bo cbo gbo bg cbg gbg bh cbh gbh bd cbd gbd)) [0, 1, 2, 3, 4, 5] (by decide) rfl
        exact W.iret (v := 0) hx hb hr (fun t ht hW => ⟨⟨0, (h0_height, j79_s0), rfl, ⟨b_h0_height, b_j79_s0, ⟨by (try dsimp only) <;> (first | (apply Int.le_antisymm <;> omega) | omega), by (try dsimp only) <;> (first | (apply Int.le_antisymm <;> omega) | omega), pa_2 hv th0_sound (by (first | (apply Int.le_antisymm <;> omega) | omega)) y79 (by decide)⟩⟩, va_P.he ht.symm hP9, va_K.moved hW.alike hK, hD9⟩, hS.F ht⟩) hS.2.2 d_VA_popAny_83
      · skip
        refine lv_if_eq (tgt := 78) hx hb d_VA_popAny_50 (by decide) (fun c50 => ?_) (fun c50 => ?_)
        · have q50 := eqI c50
          refine lv_iconst (v := 0) hx hb d_VA_popAny_78 (by decide) ?_
          exact jn79 0 _ _ _ ⟨Or.inl rfl, by (try dsimp only) <;> (first | (apply Int.le_antisymm <;> omega) | omega), hP, hD, hS, lv_sub hl [] rfl⟩
        · have q50 := neI c50
          refine lv_aload_n hx hb d_VA_popAny_53 rfl (lv_at hl 0 rfl) ?_
          refine va_get (D := (dC, dI)) (ci := 9) (v := .int h0_depth) (C := R_VA) (T := F_VA) (N := 11) hx hb hts i_VA hown hK hP 0 rfl rfl 10 (by decide) (hts _ kF_VA_117) (fun _ h9 => h9) rfl d_VA_popAny_54 ?_
          refine lv_if_le (tgt := 78) hx hb d_VA_popAny_57 (by decide) (fun c57 => ?_) (fun c57 => ?_)
          · have q57 := leI c57
            refine lv_iconst (v := 0) hx hb d_VA_popAny_78 (by decide) ?_
            exact jn79 0 _ _ _ ⟨Or.inl rfl, by (try dsimp only) <;> (first | (apply Int.le_antisymm <;> omega) | omega), hP, hD, hS, lv_sub hl [] rfl⟩
          · have q57 := nleI c57
            refine lv_aload_n hx hb d_VA_popAny_60 rfl (lv_at hl 0 rfl) ?_
            refine va_get (D := (dC, dI)) (ci := 9) (v := .ref bd) (C := R_VA) (T := F_VA) (N := 11) hx hb hts i_VA hown hK hP 0 rfl rfl 9 (by decide) (hts _ kF_VA_24) (fun _ h9 => h9) rfl d_VA_popAny_61 ?_
            refine lv_aload_n hx hb d_VA_popAny_64 rfl (lv_at hl 0 rfl) ?_
            refine va_get (D := (dC, dI)) (ci := 9) (v := .int h0_depth) (C := R_VA) (T := F_VA) (N := 11) hx hb hts i_VA hown hK hP 0 rfl rfl 10 (by decide) (hts _ kF_VA_117) (fun _ h9 => h9) rfl d_VA_popAny_65 ?_
            refine lv_iconst (v := 1) hx hb d_VA_popAny_68 (by decide) ?_
            refine lv_isub hx hb d_VA_popAny_69 ?_
            refine lv_topi (fun x5 ex5 => ?_)
            have tx5 : x5.toInt = h0_depth.toInt - 1 := by have z := i32_sub ex5 (by (first | (apply Int.le_antisymm <;> omega) | omega)) (by (first | (apply Int.le_antisymm <;> omega) | omega)); first | exact z | (first | (apply Int.le_antisymm <;> omega) | omega)
            have g70 : vp_in x5 101 := vp_in_iff.mpr ⟨by (first | (apply Int.le_antisymm <;> omega) | omega), by (first | (apply Int.le_antisymm <;> omega) | omega)⟩
            refine va_zald hx hb hK hP 5 4 rfl rfl g70 d_VA_popAny_70 ?_
            refine lv_topi (fun x6 ex6 => ?_)
            rw [i32_natI (x := x5) (n := h0_depth.toInt - 1) (by (first | (apply Int.le_antisymm <;> omega) | omega))] at ex6
            have ux6 : x6.toInt = (gbd (h0_depth.toInt - 1).toNat).toInt := by rw [ex6]
            refine lv_if_eq (tgt := 78) hx hb d_VA_popAny_71 (by decide) (fun c71 => ?_) (fun c71 => ?_)
            · have q71 := eqI c71
              refine lv_iconst (v := 0) hx hb d_VA_popAny_78 (by decide) ?_
              exact jn79 0 _ _ _ ⟨Or.inl rfl, by (try dsimp only) <;> (first | (apply Int.le_antisymm <;> omega) | omega), hP, hD, hS, lv_sub hl [] rfl⟩
            · have q71 := neI c71
              refine lv_iconst (v := 1) hx hb d_VA_popAny_74 (by decide) ?_
              refine lv_goto (tgt := 79) hx hb d_VA_popAny_75 (by decide) ?_
              exact jn79 1 _ _ _ ⟨Or.inr rfl, by (try dsimp only) <;> (first | (apply Int.le_antisymm <;> omega) | omega), hP, hD, hS, lv_sub hl [] rfl⟩
    · have q22 := nleI c22
      refine lv_aload_n hx hb d_VA_popAny_25 rfl (lv_at hl 0 rfl) ?_
      refine lv_dup hx hb d_VA_popAny_26 rfl ?_
      refine va_get (D := (dC, dI)) (ci := 9) (v := .int h0_height) (C := R_VA) (T := F_VA) (N := 11) hx hb hts i_VA hown hK hP 0 rfl rfl 5 (by decide) (hts _ kF_VA_114) (fun _ h9 => h9) rfl d_VA_popAny_27 ?_
      refine lv_iconst (v := 1) hx hb d_VA_popAny_30 (by decide) ?_
      refine lv_isub hx hb d_VA_popAny_31 ?_
      refine lv_topi (fun x7 ex7 => ?_)
      have tx7 : x7.toInt = h0_height.toInt - 1 := by have z := i32_sub ex7 (by (first | (apply Int.le_antisymm <;> omega) | omega)) (by (first | (apply Int.le_antisymm <;> omega) | omega)); first | exact z | (first | (apply Int.le_antisymm <;> omega) | omega)
      refine va_put (D := (dC, dI)) (ci := 9) (v := .int x7) (ty := .int) (C := R_VA) (T := F_VA) (N := 11) hx hb hts i_VA t_VA t_VA_ok n_VA hown hK hP hD hS 0 rfl rfl 5 (by decide) (hts _ kF_VA_114) (fun _ h9 => h9) rfl (by decide +kernel) rfl rfl (Nat.le_of_ble_eq_true rfl) d_VA_popAny_32 (fun H locs hP hD hS => ?_)
      refine lv_aload_n hx hb d_VA_popAny_35 rfl (lv_at hl 0 rfl) ?_
      refine va_get (D := (dC, dI)) (ci := 9) (v := .ref ty) (C := R_VA) (T := F_VA) (N := 11) hx hb hts i_VA hown hK hP 0 rfl rfl 4 (by decide) (hts _ kF_VA_9) (fun _ h9 => h9) rfl d_VA_popAny_36 ?_
      refine lv_aload_n hx hb d_VA_popAny_39 rfl (lv_at hl 0 rfl) ?_
      refine va_get (D := (dC, dI)) (ci := 9) (v := .int x7) (C := R_VA) (T := F_VA) (N := 11) hx hb hts i_VA hown hK hP 0 rfl rfl 5 (by decide) (hts _ kF_VA_114) (fun _ h9 => h9) rfl d_VA_popAny_40 ?_
      have g43 : vp_in x7 5000 := vp_in_iff.mpr ⟨by (first | (apply Int.le_antisymm <;> omega) | omega), by (first | (apply Int.le_antisymm <;> omega) | omega)⟩
      refine va_iald hx hb hK hP 1 0 rfl rfl g43 d_VA_popAny_43 ?_
      refine lv_topi (fun x8 ex8 => ?_)
      have tx8 := b_gty x7.toNatClampNeg
      rw [← ex8] at tx8
      have hP9 := hP.sb (wq := (wz_86 h0 aw ac h0_sound h0_function ty x7 bo bg bh bd h0_depth ty cty gty bo cbo gbo bg cbg gbg bh cbh gbh bd cbd gbd)) [0, 1, 2, 3, 4, 5] rfl
      have hD9 := hD.sb (wq := (wz_86 h0 aw ac h0_sound h0_function ty x7 bo bg bh bd h0_depth ty cty gty bo cbo gbo bg cbg gbg bh cbh gbh bd cbd gbd)) [0, 1, 2, 3, 4, 5] (by decide) rfl
      exact W.iret (v := x8) hx hb hr (fun t ht hW => ⟨⟨x8, (x7, h0_sound), rfl, ⟨by (try dsimp only) <;> (first | (apply Int.le_antisymm <;> omega) | omega), b_h0_sound, ⟨by (try dsimp only) <;> (first | (apply Int.le_antisymm <;> omega) | omega), by (try dsimp only) <;> (first | (apply Int.le_antisymm <;> omega) | omega), pa_1 hv th0_sound (by (first | (apply Int.le_antisymm <;> omega) | omega)) (by (first | (apply Int.le_antisymm <;> omega) | omega)) (by (first | (apply Int.le_antisymm <;> omega) | omega)) (by rw [ex8]) (by (first | (apply Int.le_antisymm <;> omega) | omega))⟩⟩, va_P.he ht.symm hP9, va_K.moved hW.alike hK, hD9⟩, hS.F ht⟩) hS.2.2 d_VA_popAny_44
abbrev at_VA_popy (dC : Nat → ClassId) (dI : Nat → Nat → Nat) (h0 aw ac ty bo bg bh bd : Nat) (cty cbo cbg cbh cbd : ClassId) (h0_function : Int32) (h0_depth : Int32) (gty : Nat → Int32) (gbo : Nat → Int32) (gbg : Nat → Int32) (gbh : Nat → Int32) (gbd : Nat → Int32) (A : Nat → Prop) (u : Int32 × Int32) (t : State) : Prop := match u with | (h0_height, h0_sound) => va_P (dC, dI) cls (wz_86 h0 aw ac h0_sound h0_function ty h0_height bo bg bh bd h0_depth ty cty gty bo cbo gbo bg cbg gbg bh cbh gbh bd cbd gbd) t.heap ∧ va_K (dC, dI) cls [(cty, .int), (cbo, .int), (cbg, .int), (cbh, .int), (cbd, .boolean)] t ∧ va_D A (wz_86 h0 aw ac h0_sound h0_function ty h0_height bo bg bh bd h0_depth ty cty gty bo cbo gbo bg cbg gbg bh cbh gbh bd cbd gbd)
set_option maxHeartbeats 4000000 in
set_option maxRecDepth 100000 in
theorem c_VA_popy (l : Launch) (dC : Nat → ClassId) (dI : Nat → Nat → Nat) (sz : Nat) (h0 aw ac ty bo bg bh bd : Nat) (cty cbo cbg cbh cbd : ClassId) (h0_sound : Int32) (h0_function : Int32) (h0_height : Int32) (h0_depth : Int32) (gty : Nat → Int32) (gbo : Nat → Int32) (gbg : Nat → Int32) (gbh : Nat → Int32) (gbd : Nat → Int32) (S9 : List Nat) (B9 : List zBl)  (b_h0_sound : h0_sound = 0 ∨ h0_sound = 1) (b_h0_height : 0 ≤ h0_height.toInt ∧ h0_height.toInt ≤ 5000) (b_h0_depth : 0 ≤ h0_depth.toInt ∧ h0_depth.toInt ≤ 101) (b_gty : ∀ j : Nat, (gty j).toInt ≠ 64) (b_gbh : ∀ j : Nat, 0 ≤ (gbh j).toInt ∧ (gbh j).toInt ≤ 5000) (p0 : Int32)  (hv : h0_sound.toInt = 1 → vA S9 B9 h0_height h0_depth gty gbo gbg gbh gbd) (hw9 : h0_sound.toInt = 1 → 0 ≤ p0.toInt) : Met l y_VA_pop w_VA_pop ({ frames := 1, cells := 0, slots := 0, locals := 20 }) (va_Pc [.ref h0, .int p0] (fun U => U.heap.size = sz ∧ va_P (dC, dI) cls (wz_86 h0 aw ac h0_sound h0_function ty h0_height bo bg bh bd h0_depth ty cty gty bo cbo gbo bg cbg gbg bh cbh gbh bd cbd gbd) U.heap ∧ va_K (dC, dI) cls [(cty, .int), (cbo, .int), (cbg, .int), (cbh, .int), (cbd, .boolean)] U ∧ va_D (fun _ => True) (wz_86 h0 aw ac h0_sound h0_function ty h0_height bo bg bh bd h0_depth ty cty gty bo cbo gbo bg cbg gbg bh cbh gbh bd cbd gbd))) (va_Qv (fun (u : Int32 × Int32) => match u with | (h0_height2, h0_sound2) => (0 ≤ h0_height2.toInt ∧ h0_height2.toInt ≤ 5000) ∧ (h0_sound2 = 0 ∨ h0_sound2 = 1) ∧ (h0_height2.toInt ≤ h0_height.toInt ∧ vwz (vpw p0.toInt.toNat S9 B9) B9 h0_sound h0_sound2 h0_height2 h0_depth gty gbo gbg gbh gbd)) (at_VA_popy dC dI h0 aw ac ty bo bg bh bd cty cbo cbg cbh cbd h0_function h0_depth gty gbo gbg gbh gbd (va_A (wz_86 h0 aw ac h0_sound h0_function ty h0_height bo bg bh bd h0_depth ty cty gty bo cbo gbo bg cbg gbg bh cbh gbh bd cbd gbd) sz)) (va_A (wz_86 h0 aw ac h0_sound h0_function ty h0_height bo bg bh bd h0_depth ty cty gty bo cbo gbo bg cbg gbg bh cbh gbh bd cbd gbd) sz)) 0 0 (va_A (wz_86 h0 aw ac h0_sound h0_function ty h0_height bo bg bh bd h0_depth ty cty gty bo cbo gbo bg cbg gbg bh cbh gbh bd cbd gbd) sz) := by
  refine Met.ofW (cc := b_VA_pop) (maxL := 3) (ret := none) (by decide) rfl ?_
  intro p e s m args below meth c s₁ B hml hv
  obtain ⟨rfl, hsz, hP, hK, hD0⟩ := hv
  have hx := B.exec
  have hb := B.bytes
  have hr := B.returns
  have hts0 := atoms_spec (ws := w_VA_pop) B.pre
  have hts : ∀ w ∈ lw_g, w.before _ s = true := fun w h => hts0 w (List.mem_cons_of_mem _ h)
  have hown : s.vm.findClass R_VA = some m.cls := findClass_of_methodNamed B.named
  have hlocks := B.notSynchronized
  clear hts0
  subst hsz
  have hD := hD0.self (sz := s.heap.size)
  generalize hAe : va_A (wz_86 h0 aw ac h0_sound h0_function ty h0_height bo bg bh bd h0_depth ty cty gty bo cbo gbo bg cbg gbg bh cbh gbh bd cbd gbd) s.heap.size = A at hD ⊢
  have hA : ∀ q : Nat, s.heap.size ≤ q → A q := fun q h => by rw [← hAe]; exact Or.inr h
  clear hAe
  have hP : va_P (dC, dI) cls (wz_86 h0 aw ac h0_sound h0_function ty h0_height bo bg bh bd h0_depth ty cty gty bo cbo gbo bg cbg gbg bh cbh gbh bd cbd gbd) s.heap := hP
  have hl := lv_entry ([.ref h0, .int p0]) (n := 3) (Nat.le_of_ble_eq_true rfl)
  rw [lg_entry_eq]
  generalize (lg_sl ([.ref h0, .int p0]) ++ List.replicate (3 - (lg_sl ([.ref h0, .int p0])).length) Slot.unset).toArray = ls at hl ⊢
  have hl : lv_has ls 3 [(0, .ref h0), (1, .int p0)] := hl
  have k0 : (0 : Int32).toInt = 0 := by decide
  refine w_gen (A := A) hP (fun H locs hP hS => ?_)
  have k1 : (1 : Int32).toInt = 1 := by decide
  have k64 : (64 : Int32).toInt = 64 := by decide
  have lo_p0 := i32_lo p0
  have hi_p0 := i32_hi p0
  have th0_sound := b01 b_h0_sound
  refine lv_iload_n hx hb d_VA_pop_0 rfl (lv_at hl 1 rfl) ?_
  refine lv_bipush (v := 64) hx hb d_VA_pop_1 (by decide) ?_
  refine lv_icmp_eq (tgt := 36) hx hb d_VA_pop_3 (by decide) (fun c3 => ?_) (fun c3 => ?_)
  · have q3 := eqI c3
    have hP9 := hP.sb (wq := (wz_86 h0 aw ac h0_sound h0_function ty h0_height bo bg bh bd h0_depth ty cty gty bo cbo gbo bg cbg gbg bh cbh gbh bd cbd gbd)) [0, 1, 2, 3, 4, 5] rfl
    have hD9 := hD.sb (wq := (wz_86 h0 aw ac h0_sound h0_function ty h0_height bo bg bh bd h0_depth ty cty gty bo cbo gbo bg cbg gbg bh cbh gbh bd cbd gbd)) [0, 1, 2, 3, 4, 5] (by decide) rfl
    exact W.vret hx hb hr (fun t ht hW => ⟨⟨(h0_height, h0_sound), rfl, ⟨b_h0_height, b_h0_sound, ⟨by (try dsimp only) <;> (first | (apply Int.le_antisymm <;> omega) | omega), ypw_0 hv th0_sound (by (first | (apply Int.le_antisymm <;> omega) | omega))⟩⟩, va_P.he ht.symm hP9, va_K.moved hW.alike hK, hD9⟩, hS.F ht⟩) hS.2.2 d_VA_pop_36
  · have q3 := neI c3
    refine lv_aload_n hx hb d_VA_pop_6 rfl (lv_at hl 0 rfl) ?_
    have hPc := hP.sb (wq := (wz_86 h0 aw ac h0_sound h0_function ty h0_height bo bg bh bd h0_depth ty cty gty bo cbo gbo bg cbg gbg bh cbh gbh bd cbd gbd)) [0, 1, 2, 3, 4, 5] rfl
    have hDc := hD.sb (wq := (wz_86 h0 aw ac h0_sound h0_function ty h0_height bo bg bh bd h0_depth ty cty gty bo cbo gbo bg cbg gbg bh cbh gbh bd cbd gbd)) [0, 1, 2, 3, 4, 5] (by decide) rfl
    have hKc := hK.sb (tyq := [(cty, .int), (cbo, .int), (cbg, .int), (cbh, .int), (cbd, .boolean)]) [0, 1, 2, 3, 4] rfl
    have hFc := va_free (wc := (wz_86 h0 aw ac h0_sound h0_function ty h0_height bo bg bh bd h0_depth ty cty gty bo cbo gbo bg cbg gbg bh cbh gbh bd cbd gbd)) hD hS hA [0, 1, 2, 3, 4, 5] rfl
    refine va_calli (va_runV (As := []) (rest := []) ⟨hx, hb, hml, hown, hts⟩ (c_VA_popAnyy l dC dI H.size h0 aw ac ty bo bg bh bd cty cbo cbg cbh cbd h0_sound h0_function h0_height h0_depth gty gbo gbg gbh gbd S9 B9 (b_h0_sound) (b_h0_height) (b_h0_depth) (b_gty) (b_gbh) (hv)) (cwV 0 hts (gV kM_VA_189 kV_VA_popAny kS_VA_popAny kI_VA kC_VA_popAny) rfl rfl rfl (by decide +kernel) ⟨Nat.le_of_ble_eq_true rfl, Nat.le_of_ble_eq_true rfl⟩) ⟨fun a U g mk z => by obtain ⟨z0, z1, zP, zK, zD⟩ := z; exact ⟨z0, z1, zP, va_K.moved (u := U) (U := U.calling g mk a) (Vm.Alike.refl U.vm) zK, zD⟩, va_recv hKc hPc (ci := 9) (q0 := 0) rfl rfl, fun U hU hW => ⟨rfl, by rw [hU], va_P.he hU.symm hPc, va_K.moved hW.alike hKc, hDc.weaken (fun _ _ _ _ => trivial)⟩⟩ rfl rfl hl.1 rfl (lv_room (Nat.le_of_ble_eq_true rfl)) d_VA_pop_7 ⟨(Nat.zero_le _), (Nat.zero_le _)⟩) hS (fun q _ h => hFc q h) hFc (fun r1 u t H1 locs ht hvm hw hB hz1 hk1 hS => ?_)
    obtain ⟨n2, n3⟩ := u
    try dsimp only at hw
    obtain ⟨bn2, bn3, xr1⟩ := hw
    try clear hw
    have tn3 := b01 bn3
    obtain ⟨hP1, hK1, hD1⟩ := hB
    replace hP1 := va_P.he ht hP1
    obtain ⟨hP, hD⟩ := va_join (wr := []) (w1 := (wz_86 h0 aw ac n3 h0_function ty n2 bo bg bh bd h0_depth ty cty gty bo cbo gbo bg cbg gbg bh cbh gbh bd cbd gbd)) hP hD [0, 1, 2, 3, 4, 5] [] rfl rfl (by decide) (by decide) hk1 hFc hP1 hD1
    clear hPc hDc hKc hFc hz1 hk1 hP1 hK1 hD1
    rename Heap => H
    have hP : va_P (dC, dI) cls (wz_86 h0 aw ac n3 h0_function ty n2 bo bg bh bd h0_depth ty cty gty bo cbo gbo bg cbg gbg bh cbh gbh bd cbd gbd) H := hP
    have hD : va_D A (wz_86 h0 aw ac n3 h0_function ty n2 bo bg bh bd h0_depth ty cty gty bo cbo gbo bg cbg gbg bh cbh gbh bd cbd gbd) := hD
    refine lv_istore_n (lv' := [(2, .int r1), (0, .ref h0), (1, .int p0)]) hx hb d_VA_pop_10 rfl hl (by decide) rfl (fun ls hl => ?_)
    refine lv_aload_n hx hb d_VA_pop_11 rfl (lv_at hl 1 rfl) ?_
    refine lv_aload_n hx hb d_VA_pop_12 rfl (lv_at hl 1 rfl) ?_
    refine va_get (D := (dC, dI)) (ci := 9) (v := .int n3) (C := R_VA) (T := F_VA) (N := 11) hx hb hts i_VA hown hK hP 0 rfl rfl 2 (by decide) (hts _ kF_VA_39) (fun _ h9 => h9) rfl d_VA_pop_13 ?_
    refine w_cut (pc2 := 33) (σ := Int32) (fun u H locs ls => match u with | j33_s0 => (j33_s0 = 0 ∨ j33_s0 = 1) ∧ ((j33_s0.toInt = 1 ∧ n3.toInt = 1 ∧ (r1.toInt = p0.toInt ∨ r1.toInt = 0)) ∨ (j33_s0.toInt = 0 ∧ ¬ (n3.toInt = 1 ∧ (r1.toInt = p0.toInt ∨ r1.toInt = 0)))) ∧ va_P (dC, dI) cls (wz_86 h0 aw ac n3 h0_function ty n2 bo bg bh bd h0_depth ty cty gty bo cbo gbo bg cbg gbg bh cbh gbh bd cbd gbd) H ∧ va_D A (wz_86 h0 aw ac n3 h0_function ty n2 bo bg bh bd h0_depth ty cty gty bo cbo gbo bg cbg gbg bh cbh gbh bd cbd gbd) ∧ va_S A s.heap H locs ∧ lv_has ls 3 []) (fun u => match u with | j33_s0 => [.int j33_s0, .ref h0]) ?_ (fun jn33 => ?_)
    · intro u H locs ls hI
      obtain ⟨j33_s0, rfl⟩ : ∃ z, z = u := ⟨_, rfl⟩
      obtain ⟨b_j33_s0, y33, hP, hD, hS, hl⟩ := hI
      have tj33_s0 := b01 b_j33_s0
      refine va_put (D := (dC, dI)) (ci := 9) (v := .int j33_s0) (ty := .boolean) (C := R_VA) (T := F_VA) (N := 11) hx hb hts i_VA t_VA t_VA_ok n_VA hown hK hP hD hS 0 rfl rfl 2 (by decide) (hts _ kF_VA_39) (fun _ h9 => h9) rfl (by decide +kernel) (zn01 (b_j33_s0)) (fz01 (b_j33_s0)) (Nat.le_of_ble_eq_true rfl) d_VA_pop_33 (fun H locs hP hD hS => ?_)
      have hP9 := hP.sb (wq := (wz_86 h0 aw ac j33_s0 h0_function ty n2 bo bg bh bd h0_depth ty cty gty bo cbo gbo bg cbg gbg bh cbh gbh bd cbd gbd)) [0, 1, 2, 3, 4, 5] rfl
      have hD9 := hD.sb (wq := (wz_86 h0 aw ac j33_s0 h0_function ty n2 bo bg bh bd h0_depth ty cty gty bo cbo gbo bg cbg gbg bh cbh gbh bd cbd gbd)) [0, 1, 2, 3, 4, 5] (by decide) rfl
      exact W.vret hx hb hr (fun t ht hW => ⟨⟨(n2, j33_s0), rfl, ⟨bn2, b_j33_s0, ⟨by (try dsimp only) <;> (first | (apply Int.le_antisymm <;> omega) | omega), pw_1 xr1.2.2 hw9 (by (first | (apply Int.le_antisymm <;> omega) | omega)) y33⟩⟩, va_P.he ht.symm hP9, va_K.moved hW.alike hK, hD9⟩, hS.F ht⟩) hS.2.2 d_VA_pop_36
    · skip
      refine w_cut (pc2 := 32) (σ := Unit) (fun u H locs ls => match u with | _ => (¬ (n3.toInt = 1 ∧ (r1.toInt = p0.toInt ∨ r1.toInt = 0))) ∧ va_P (dC, dI) cls (wz_86 h0 aw ac n3 h0_function ty n2 bo bg bh bd h0_depth ty cty gty bo cbo gbo bg cbg gbg bh cbh gbh bd cbd gbd) H ∧ va_D A (wz_86 h0 aw ac n3 h0_function ty n2 bo bg bh bd h0_depth ty cty gty bo cbo gbo bg cbg gbg bh cbh gbh bd cbd gbd) ∧ va_S A s.heap H locs ∧ lv_has ls 3 []) (fun u => match u with | _ => [.ref h0]) ?_ (fun jn32 => ?_)
      · intro u H locs ls hI
        obtain ⟨y32, hP, hD, hS, hl⟩ := hI
        refine lv_iconst (v := 0) hx hb d_VA_pop_32 (by decide) ?_
        exact jn33 0 _ _ _ ⟨Or.inl rfl, by (try dsimp only) <;> (first | (apply Int.le_antisymm <;> omega) | omega), hP, hD, hS, lv_sub hl [] rfl⟩
      · skip
        refine lv_if_eq (tgt := 32) hx hb d_VA_pop_16 (by decide) (fun c16 => ?_) (fun c16 => ?_)
        · have q16 := eqI c16
          exact jn32 () _ _ _ ⟨by (try dsimp only) <;> (first | (apply Int.le_antisymm <;> omega) | omega), hP, hD, hS, lv_sub hl [] rfl⟩
        · have q16 := neI c16
          refine lv_iload_n hx hb d_VA_pop_19 rfl (lv_at hl 0 rfl) ?_
          refine lv_iload_n hx hb d_VA_pop_20 rfl (lv_at hl 2 rfl) ?_
          refine w_cut (pc2 := 28) (σ := Unit) (fun u H locs ls => match u with | _ => (n3.toInt = 1 ∧ (r1.toInt = p0.toInt ∨ r1.toInt = 0)) ∧ va_P (dC, dI) cls (wz_86 h0 aw ac n3 h0_function ty n2 bo bg bh bd h0_depth ty cty gty bo cbo gbo bg cbg gbg bh cbh gbh bd cbd gbd) H ∧ va_D A (wz_86 h0 aw ac n3 h0_function ty n2 bo bg bh bd h0_depth ty cty gty bo cbo gbo bg cbg gbg bh cbh gbh bd cbd gbd) ∧ va_S A s.heap H locs ∧ lv_has ls 3 []) (fun u => match u with | _ => [.ref h0]) ?_ (fun jn28 => ?_)
          · intro u H locs ls hI
            obtain ⟨y28, hP, hD, hS, hl⟩ := hI
            refine lv_iconst (v := 1) hx hb d_VA_pop_28 (by decide) ?_
            refine lv_goto (tgt := 33) hx hb d_VA_pop_29 (by decide) ?_
            exact jn33 1 _ _ _ ⟨Or.inr rfl, by (try dsimp only) <;> (first | (apply Int.le_antisymm <;> omega) | omega), hP, hD, hS, lv_sub hl [] rfl⟩
          · skip
            refine lv_icmp_eq (tgt := 28) hx hb d_VA_pop_21 (by decide) (fun c21 => ?_) (fun c21 => ?_)
            · have q21 := eqI c21
              exact jn28 () _ _ _ ⟨by (try dsimp only) <;> (first | (apply Int.le_antisymm <;> omega) | omega), hP, hD, hS, lv_sub hl [] rfl⟩
            · have q21 := neI c21
              refine lv_iload_n hx hb d_VA_pop_24 rfl (lv_at hl 0 rfl) ?_
              refine lv_if_ne (tgt := 32) hx hb d_VA_pop_25 (by decide) (fun c25 => ?_) (fun c25 => ?_)
              · have q25 := neI c25
                exact jn32 () _ _ _ ⟨by (try dsimp only) <;> (first | (apply Int.le_antisymm <;> omega) | omega), hP, hD, hS, lv_sub hl [] rfl⟩
              · have q25 := eqI c25
                exact jn28 () _ _ _ ⟨by (try dsimp only) <;> (first | (apply Int.le_antisymm <;> omega) | omega), hP, hD, hS, lv_sub hl [] rfl⟩
abbrev at_VA_pushy (dC : Nat → ClassId) (dI : Nat → Nat → Nat) (h0 aw ac ty bo bg bh bd : Nat) (cty cbo cbg cbh cbd : ClassId) (h0_sound : Int32) (h0_function : Int32) (h0_depth : Int32) (gbo : Nat → Int32) (gbg : Nat → Int32) (gbh : Nat → Int32) (gbd : Nat → Int32) (A : Nat → Prop) (u : (Nat → Int32) × Int32) (t : State) : Prop := match u with | (gty, h0_height) => va_P (dC, dI) cls (wz_86 h0 aw ac h0_sound h0_function ty h0_height bo bg bh bd h0_depth ty cty gty bo cbo gbo bg cbg gbg bh cbh gbh bd cbd gbd) t.heap ∧ va_K (dC, dI) cls [(cty, .int), (cbo, .int), (cbg, .int), (cbh, .int), (cbd, .boolean)] t ∧ va_D A (wz_86 h0 aw ac h0_sound h0_function ty h0_height bo bg bh bd h0_depth ty cty gty bo cbo gbo bg cbg gbg bh cbh gbh bd cbd gbd)
set_option maxHeartbeats 4000000 in
set_option maxRecDepth 100000 in
theorem c_VA_pushy (l : Launch) (dC : Nat → ClassId) (dI : Nat → Nat → Nat) (sz : Nat) (h0 aw ac ty bo bg bh bd : Nat) (cty cbo cbg cbh cbd : ClassId) (h0_sound : Int32) (h0_function : Int32) (h0_height : Int32) (h0_depth : Int32) (gty : Nat → Int32) (gbo : Nat → Int32) (gbg : Nat → Int32) (gbh : Nat → Int32) (gbd : Nat → Int32) (S9 : List Nat) (B9 : List zBl)  (b_h0_sound : h0_sound = 0 ∨ h0_sound = 1) (b_h0_height : 0 ≤ h0_height.toInt ∧ h0_height.toInt ≤ 5000) (b_h0_depth : 0 ≤ h0_depth.toInt ∧ h0_depth.toInt ≤ 101) (b_gty : ∀ j : Nat, (gty j).toInt ≠ 64) (b_gbh : ∀ j : Nat, 0 ≤ (gbh j).toInt ∧ (gbh j).toInt ≤ 5000) (p0 : Int32)  (hv : h0_sound.toInt = 1 → vA S9 B9 h0_height h0_depth gty gbo gbg gbh gbd) (hw9 : h0_sound.toInt = 1 → 0 ≤ p0.toInt) (h5 : h0_sound.toInt = 1 → h0_height.toInt < 5000) : Met l y_VA_push w_VA_push ({ frames := 0, cells := 0, slots := 0, locals := 0 }) (va_Pc [.ref h0, .int p0] (fun U => U.heap.size = sz ∧ va_P (dC, dI) cls (wz_86 h0 aw ac h0_sound h0_function ty h0_height bo bg bh bd h0_depth ty cty gty bo cbo gbo bg cbg gbg bh cbh gbh bd cbd gbd) U.heap ∧ va_K (dC, dI) cls [(cty, .int), (cbo, .int), (cbg, .int), (cbh, .int), (cbd, .boolean)] U ∧ va_D (fun _ => True) (wz_86 h0 aw ac h0_sound h0_function ty h0_height bo bg bh bd h0_depth ty cty gty bo cbo gbo bg cbg gbg bh cbh gbh bd cbd gbd))) (va_Qv (fun (u : (Nat → Int32) × Int32) => match u with | (gty2, h0_height2) => (∀ j : Nat, (gty2 j).toInt ≠ 64) ∧ (0 ≤ h0_height2.toInt ∧ h0_height2.toInt ≤ 5000) ∧ (h0_height2.toInt ≤ h0_height.toInt + 1 ∧ (h0_sound.toInt = 1 → vA (vps p0.toInt.toNat S9) B9 h0_height2 h0_depth gty2 gbo gbg gbh gbd))) (at_VA_pushy dC dI h0 aw ac ty bo bg bh bd cty cbo cbg cbh cbd h0_sound h0_function h0_depth gbo gbg gbh gbd (va_A (wz_86 h0 aw ac h0_sound h0_function ty h0_height bo bg bh bd h0_depth ty cty gty bo cbo gbo bg cbg gbg bh cbh gbh bd cbd gbd) sz)) (va_A (wz_86 h0 aw ac h0_sound h0_function ty h0_height bo bg bh bd h0_depth ty cty gty bo cbo gbo bg cbg gbg bh cbh gbh bd cbd gbd) sz)) 0 0 (va_A (wz_86 h0 aw ac h0_sound h0_function ty h0_height bo bg bh bd h0_depth ty cty gty bo cbo gbo bg cbg gbg bh cbh gbh bd cbd gbd) sz) := by
  refine Met.ofW (cc := b_VA_push) (maxL := 2) (ret := none) (by decide) rfl ?_
  intro p e s m args below meth c s₁ B hml hv
  obtain ⟨rfl, hsz, hP, hK, hD0⟩ := hv
  have hx := B.exec
  have hb := B.bytes
  have hr := B.returns
  have hts0 := atoms_spec (ws := w_VA_push) B.pre
  have hts : ∀ w ∈ lw_g, w.before _ s = true := fun w h => hts0 w (List.mem_cons_of_mem _ h)
  have hown : s.vm.findClass R_VA = some m.cls := findClass_of_methodNamed B.named
  have hlocks := B.notSynchronized
  clear hts0
  subst hsz
  have hD := hD0.self (sz := s.heap.size)
  generalize hAe : va_A (wz_86 h0 aw ac h0_sound h0_function ty h0_height bo bg bh bd h0_depth ty cty gty bo cbo gbo bg cbg gbg bh cbh gbh bd cbd gbd) s.heap.size = A at hD ⊢
  have hA : ∀ q : Nat, s.heap.size ≤ q → A q := fun q h => by rw [← hAe]; exact Or.inr h
  clear hAe
  have hP : va_P (dC, dI) cls (wz_86 h0 aw ac h0_sound h0_function ty h0_height bo bg bh bd h0_depth ty cty gty bo cbo gbo bg cbg gbg bh cbh gbh bd cbd gbd) s.heap := hP
  have hl := lv_entry ([.ref h0, .int p0]) (n := 2) (Nat.le_of_ble_eq_true rfl)
  rw [lg_entry_eq]
  generalize (lg_sl ([.ref h0, .int p0]) ++ List.replicate (2 - (lg_sl ([.ref h0, .int p0])).length) Slot.unset).toArray = ls at hl ⊢
  have hl : lv_has ls 2 [(0, .ref h0), (1, .int p0)] := hl
  have k0 : (0 : Int32).toInt = 0 := by decide
  refine w_gen (A := A) hP (fun H locs hP hS => ?_)
  have k1 : (1 : Int32).toInt = 1 := by decide
  have k64 : (64 : Int32).toInt = 64 := by decide
  have lo_p0 := i32_lo p0
  have hi_p0 := i32_hi p0
  have th0_sound := b01 b_h0_sound
  refine lv_iload_n hx hb d_VA_push_0 rfl (lv_at hl 1 rfl) ?_
  refine lv_bipush (v := 64) hx hb d_VA_push_1 (by decide) ?_
  refine lv_icmp_eq (tgt := 35) hx hb d_VA_push_3 (by decide) (fun c3 => ?_) (fun c3 => ?_)
  · have q3 := eqI c3
    have hP9 := hP.sb (wq := (wz_86 h0 aw ac h0_sound h0_function ty h0_height bo bg bh bd h0_depth ty cty gty bo cbo gbo bg cbg gbg bh cbh gbh bd cbd gbd)) [0, 1, 2, 3, 4, 5] rfl
    have hD9 := hD.sb (wq := (wz_86 h0 aw ac h0_sound h0_function ty h0_height bo bg bh bd h0_depth ty cty gty bo cbo gbo bg cbg gbg bh cbh gbh bd cbd gbd)) [0, 1, 2, 3, 4, 5] (by decide) rfl
    exact W.vret hx hb hr (fun t ht hW => ⟨⟨(gty, h0_height), rfl, ⟨b_gty, b_h0_height, ⟨by (try dsimp only) <;> (first | (apply Int.le_antisymm <;> omega) | omega), fun q => by first | exact ps_0 (hv q) (by (first | (apply Int.le_antisymm <;> omega) | omega)) | (exfalso; have := h5 q; (first | (apply Int.le_antisymm <;> omega) | omega))⟩⟩, va_P.he ht.symm hP9, va_K.moved hW.alike hK, hD9⟩, hS.F ht⟩) hS.2.2 d_VA_push_35
  · have q3 := neI c3
    refine lv_aload_n hx hb d_VA_push_6 rfl (lv_at hl 0 rfl) ?_
    refine va_get (D := (dC, dI)) (ci := 9) (v := .int h0_height) (C := R_VA) (T := F_VA) (N := 11) hx hb hts i_VA hown hK hP 0 rfl rfl 5 (by decide) (hts _ kF_VA_114) (fun _ h9 => h9) rfl d_VA_push_7 ?_
    refine lv_aload_n hx hb d_VA_push_10 rfl (lv_at hl 0 rfl) ?_
    refine va_get (D := (dC, dI)) (ci := 9) (v := .ref ty) (C := R_VA) (T := F_VA) (N := 11) hx hb hts i_VA hown hK hP 0 rfl rfl 4 (by decide) (hts _ kF_VA_9) (fun _ h9 => h9) rfl d_VA_push_11 ?_
    refine va_alen hx hb hK hP 1 0 rfl rfl rfl d_VA_push_14 ?_
    refine lv_topi (fun x1 ex1 => ?_)
    have tx1 : x1.toInt = 5000 := by rw [ex1]; exact i32_len (by (first | (apply Int.le_antisymm <;> omega) | omega))
    refine lv_icmp_ge (tgt := 35) hx hb d_VA_push_15 (by decide) (fun c15 => ?_) (fun c15 => ?_)
    · have q15 := leI c15
      have hP9 := hP.sb (wq := (wz_86 h0 aw ac h0_sound h0_function ty h0_height bo bg bh bd h0_depth ty cty gty bo cbo gbo bg cbg gbg bh cbh gbh bd cbd gbd)) [0, 1, 2, 3, 4, 5] rfl
      have hD9 := hD.sb (wq := (wz_86 h0 aw ac h0_sound h0_function ty h0_height bo bg bh bd h0_depth ty cty gty bo cbo gbo bg cbg gbg bh cbh gbh bd cbd gbd)) [0, 1, 2, 3, 4, 5] (by decide) rfl
      exact W.vret hx hb hr (fun t ht hW => ⟨⟨(gty, h0_height), rfl, ⟨b_gty, b_h0_height, ⟨by (try dsimp only) <;> (first | (apply Int.le_antisymm <;> omega) | omega), fun q => by first | exact ps_0 (hv q) (by (first | (apply Int.le_antisymm <;> omega) | omega)) | (exfalso; have := h5 q; (first | (apply Int.le_antisymm <;> omega) | omega))⟩⟩, va_P.he ht.symm hP9, va_K.moved hW.alike hK, hD9⟩, hS.F ht⟩) hS.2.2 d_VA_push_35
    · have q15 := nleI c15
      refine lv_aload_n hx hb d_VA_push_18 rfl (lv_at hl 0 rfl) ?_
      refine va_get (D := (dC, dI)) (ci := 9) (v := .ref ty) (C := R_VA) (T := F_VA) (N := 11) hx hb hts i_VA hown hK hP 0 rfl rfl 4 (by decide) (hts _ kF_VA_9) (fun _ h9 => h9) rfl d_VA_push_19 ?_
      refine lv_aload_n hx hb d_VA_push_22 rfl (lv_at hl 0 rfl) ?_
      refine lv_dup hx hb d_VA_push_23 rfl ?_
      refine va_get (D := (dC, dI)) (ci := 9) (v := .int h0_height) (C := R_VA) (T := F_VA) (N := 11) hx hb hts i_VA hown hK hP 0 rfl rfl 5 (by decide) (hts _ kF_VA_114) (fun _ h9 => h9) rfl d_VA_push_24 ?_
      refine lv_dup_x1 hx hb d_VA_push_27 rfl rfl ?_
      refine lv_iconst (v := 1) hx hb d_VA_push_28 (by decide) ?_
      refine lv_iadd hx hb d_VA_push_29 ?_
      refine lv_topi (fun x2 ex2 => ?_)
      have tx2 : x2.toInt = h0_height.toInt + 1 := by have z := i32_add ex2 (by (first | (apply Int.le_antisymm <;> omega) | omega)) (by (first | (apply Int.le_antisymm <;> omega) | omega)); first | exact z | (first | (apply Int.le_antisymm <;> omega) | omega)
      refine va_put (D := (dC, dI)) (ci := 9) (v := .int x2) (ty := .int) (C := R_VA) (T := F_VA) (N := 11) hx hb hts i_VA t_VA t_VA_ok n_VA hown hK hP hD hS 0 rfl rfl 5 (by decide) (hts _ kF_VA_114) (fun _ h9 => h9) rfl (by decide +kernel) rfl rfl (Nat.le_of_ble_eq_true rfl) d_VA_push_30 (fun H locs hP hD hS => ?_)
      refine lv_iload_n hx hb d_VA_push_33 rfl (lv_at hl 1 rfl) ?_
      have g34 : vp_in h0_height 5000 := vp_in_iff.mpr ⟨by (first | (apply Int.le_antisymm <;> omega) | omega), by (first | (apply Int.le_antisymm <;> omega) | omega)⟩
      refine va_iast hx hb hK hP hD hS 1 0 rfl rfl g34 d_VA_push_34 (fun H locs hP hD hS => ?_)
      generalize ef3 : upd gty h0_height.toNatClampNeg p0 = f3 at hP hD
      have b_f3 : ∀ j : Nat, (f3 j).toInt ≠ 64 := by rw [← ef3]; exact upd_p (Q := fun v => v.toInt ≠ 64) b_gty (by (try dsimp only) <;> (first | (apply Int.le_antisymm <;> omega) | omega))
      have hP9 := hP.sb (wq := (wz_86 h0 aw ac h0_sound h0_function ty x2 bo bg bh bd h0_depth ty cty f3 bo cbo gbo bg cbg gbg bh cbh gbh bd cbd gbd)) [0, 1, 2, 3, 4, 5] rfl
      have hD9 := hD.sb (wq := (wz_86 h0 aw ac h0_sound h0_function ty x2 bo bg bh bd h0_depth ty cty f3 bo cbo gbo bg cbg gbg bh cbh gbh bd cbd gbd)) [0, 1, 2, 3, 4, 5] (by decide) rfl
      exact W.vret hx hb hr (fun t ht hW => ⟨⟨(f3, x2), rfl, ⟨b_f3, by (try dsimp only) <;> (first | (apply Int.le_antisymm <;> omega) | omega), ⟨by (try dsimp only) <;> (first | (apply Int.le_antisymm <;> omega) | omega), fun q => by rw [← ef3]; exact ps_1 (hv q) (hw9 q) (by (first | (apply Int.le_antisymm <;> omega) | omega)) (by (first | (apply Int.le_antisymm <;> omega) | omega)) (by (first | (apply Int.le_antisymm <;> omega) | omega))⟩⟩, va_P.he ht.symm hP9, va_K.moved hW.alike hK, hD9⟩, hS.F ht⟩) hS.2.2 d_VA_push_35
abbrev at_VA_openy (dC : Nat → ClassId) (dI : Nat → Nat → Nat) (h0 aw ac ty bo bg bh bd : Nat) (cty cbo cbg cbh cbd : ClassId) (h0_sound : Int32) (h0_function : Int32) (h0_height : Int32) (gty : Nat → Int32) (A : Nat → Prop) (u : (Nat → Int32) × (Nat → Int32) × (Nat → Int32) × (Nat → Int32) × Int32) (t : State) : Prop := match u with | (gbd, gbg, gbh, gbo, h0_depth) => va_P (dC, dI) cls (wz_86 h0 aw ac h0_sound h0_function ty h0_height bo bg bh bd h0_depth ty cty gty bo cbo gbo bg cbg gbg bh cbh gbh bd cbd gbd) t.heap ∧ va_K (dC, dI) cls [(cty, .int), (cbo, .int), (cbg, .int), (cbh, .int), (cbd, .boolean)] t ∧ va_D A (wz_86 h0 aw ac h0_sound h0_function ty h0_height bo bg bh bd h0_depth ty cty gty bo cbo gbo bg cbg gbg bh cbh gbh bd cbd gbd)
set_option maxHeartbeats 4000000 in
set_option maxRecDepth 100000 in
theorem c_VA_openy (l : Launch) (dC : Nat → ClassId) (dI : Nat → Nat → Nat) (sz : Nat) (h0 aw ac ty bo bg bh bd : Nat) (cty cbo cbg cbh cbd : ClassId) (h0_sound : Int32) (h0_function : Int32) (h0_height : Int32) (h0_depth : Int32) (gty : Nat → Int32) (gbo : Nat → Int32) (gbg : Nat → Int32) (gbh : Nat → Int32) (gbd : Nat → Int32) (S9 : List Nat) (B9 : List zBl)  (b_h0_sound : h0_sound = 0 ∨ h0_sound = 1) (b_h0_height : 0 ≤ h0_height.toInt ∧ h0_height.toInt ≤ 5000) (b_h0_depth : 0 ≤ h0_depth.toInt ∧ h0_depth.toInt ≤ 101) (b_gty : ∀ j : Nat, (gty j).toInt ≠ 64) (b_gbh : ∀ j : Nat, 0 ≤ (gbh j).toInt ∧ (gbh j).toInt ≤ 5000) (p0 : Int32) (p1 : Int32)  (hv : h0_sound.toInt = 1 → vA S9 B9 h0_height h0_depth gty gbo gbg gbh gbd) (hp : h0_sound.toInt = 1 → 0 ≤ p0.toInt ∧ 0 ≤ p1.toInt) (hd : h0_sound.toInt = 1 → h0_depth.toInt ≤ 100) : Met l y_VA_open w_VA_open ({ frames := 0, cells := 0, slots := 0, locals := 0 }) (va_Pc [.ref h0, .int p0, .int p1] (fun U => U.heap.size = sz ∧ va_P (dC, dI) cls (wz_86 h0 aw ac h0_sound h0_function ty h0_height bo bg bh bd h0_depth ty cty gty bo cbo gbo bg cbg gbg bh cbh gbh bd cbd gbd) U.heap ∧ va_K (dC, dI) cls [(cty, .int), (cbo, .int), (cbg, .int), (cbh, .int), (cbd, .boolean)] U ∧ va_D (fun _ => True) (wz_86 h0 aw ac h0_sound h0_function ty h0_height bo bg bh bd h0_depth ty cty gty bo cbo gbo bg cbg gbg bh cbh gbh bd cbd gbd))) (va_Qv (fun (u : (Nat → Int32) × (Nat → Int32) × (Nat → Int32) × (Nat → Int32) × Int32) => match u with | (gbd2, gbg2, gbh2, gbo2, h0_depth2) => (∀ j : Nat, 0 ≤ (gbh2 j).toInt ∧ (gbh2 j).toInt ≤ 5000) ∧ (0 ≤ h0_depth2.toInt ∧ h0_depth2.toInt ≤ 101) ∧ (h0_depth2.toInt ≤ h0_depth.toInt + 1 ∧ (h0_sound.toInt = 1 → vA S9 ((p0.toInt.toNat, p1.toInt.toNat, S9.length, false) :: B9) h0_height h0_depth2 gty gbo2 gbg2 gbh2 gbd2))) (at_VA_openy dC dI h0 aw ac ty bo bg bh bd cty cbo cbg cbh cbd h0_sound h0_function h0_height gty (va_A (wz_86 h0 aw ac h0_sound h0_function ty h0_height bo bg bh bd h0_depth ty cty gty bo cbo gbo bg cbg gbg bh cbh gbh bd cbd gbd) sz)) (va_A (wz_86 h0 aw ac h0_sound h0_function ty h0_height bo bg bh bd h0_depth ty cty gty bo cbo gbo bg cbg gbg bh cbh gbh bd cbd gbd) sz)) 0 0 (va_A (wz_86 h0 aw ac h0_sound h0_function ty h0_height bo bg bh bd h0_depth ty cty gty bo cbo gbo bg cbg gbg bh cbh gbh bd cbd gbd) sz) := by
  refine Met.ofW (cc := b_VA_open) (maxL := 3) (ret := none) (by decide) rfl ?_
  intro p e s m args below meth c s₁ B hml hv
  obtain ⟨rfl, hsz, hP, hK, hD0⟩ := hv
  have hx := B.exec
  have hb := B.bytes
  have hr := B.returns
  have hts0 := atoms_spec (ws := w_VA_open) B.pre
  have hts : ∀ w ∈ lw_g, w.before _ s = true := fun w h => hts0 w (List.mem_cons_of_mem _ h)
  have hown : s.vm.findClass R_VA = some m.cls := findClass_of_methodNamed B.named
  have hlocks := B.notSynchronized
  clear hts0
  subst hsz
  have hD := hD0.self (sz := s.heap.size)
  generalize hAe : va_A (wz_86 h0 aw ac h0_sound h0_function ty h0_height bo bg bh bd h0_depth ty cty gty bo cbo gbo bg cbg gbg bh cbh gbh bd cbd gbd) s.heap.size = A at hD ⊢
  have hA : ∀ q : Nat, s.heap.size ≤ q → A q := fun q h => by rw [← hAe]; exact Or.inr h
  clear hAe
  have hP : va_P (dC, dI) cls (wz_86 h0 aw ac h0_sound h0_function ty h0_height bo bg bh bd h0_depth ty cty gty bo cbo gbo bg cbg gbg bh cbh gbh bd cbd gbd) s.heap := hP
  have hl := lv_entry ([.ref h0, .int p0, .int p1]) (n := 3) (Nat.le_of_ble_eq_true rfl)
  rw [lg_entry_eq]
  generalize (lg_sl ([.ref h0, .int p0, .int p1]) ++ List.replicate (3 - (lg_sl ([.ref h0, .int p0, .int p1])).length) Slot.unset).toArray = ls at hl ⊢
  have hl : lv_has ls 3 [(0, .ref h0), (1, .int p0), (2, .int p1)] := hl
  have k0 : (0 : Int32).toInt = 0 := by decide
  refine w_gen (A := A) hP (fun H locs hP hS => ?_)
  have k1 : (1 : Int32).toInt = 1 := by decide
  have lo_p0 := i32_lo p0
  have hi_p0 := i32_hi p0
  have lo_p1 := i32_lo p1
  have hi_p1 := i32_hi p1
  have th0_sound := b01 b_h0_sound
  refine lv_aload_n hx hb d_VA_open_0 rfl (lv_at hl 0 rfl) ?_
  refine va_get (D := (dC, dI)) (ci := 9) (v := .int h0_depth) (C := R_VA) (T := F_VA) (N := 11) hx hb hts i_VA hown hK hP 0 rfl rfl 10 (by decide) (hts _ kF_VA_117) (fun _ h9 => h9) rfl d_VA_open_1 ?_
  refine lv_aload_n hx hb d_VA_open_4 rfl (lv_at hl 0 rfl) ?_
  refine va_get (D := (dC, dI)) (ci := 9) (v := .ref bo) (C := R_VA) (T := F_VA) (N := 11) hx hb hts i_VA hown hK hP 0 rfl rfl 6 (by decide) (hts _ kF_VA_15) (fun _ h9 => h9) rfl d_VA_open_5 ?_
  refine va_alen hx hb hK hP 2 1 rfl rfl rfl d_VA_open_8 ?_
  refine lv_topi (fun x1 ex1 => ?_)
  have tx1 : x1.toInt = 101 := by rw [ex1]; exact i32_len (by (first | (apply Int.le_antisymm <;> omega) | omega))
  refine lv_icmp_ge (tgt := 65) hx hb d_VA_open_9 (by decide) (fun c9 => ?_) (fun c9 => ?_)
  · have q9 := leI c9
    have hP9 := hP.sb (wq := (wz_86 h0 aw ac h0_sound h0_function ty h0_height bo bg bh bd h0_depth ty cty gty bo cbo gbo bg cbg gbg bh cbh gbh bd cbd gbd)) [0, 1, 2, 3, 4, 5] rfl
    have hD9 := hD.sb (wq := (wz_86 h0 aw ac h0_sound h0_function ty h0_height bo bg bh bd h0_depth ty cty gty bo cbo gbo bg cbg gbg bh cbh gbh bd cbd gbd)) [0, 1, 2, 3, 4, 5] (by decide) rfl
    exact W.vret hx hb hr (fun t ht hW => ⟨⟨(gbd, gbg, gbh, gbo, h0_depth), rfl, ⟨b_gbh, b_h0_depth, ⟨by (try dsimp only) <;> (first | (apply Int.le_antisymm <;> omega) | omega), fun q => by exfalso; have := hd q; (first | (apply Int.le_antisymm <;> omega) | omega)⟩⟩, va_P.he ht.symm hP9, va_K.moved hW.alike hK, hD9⟩, hS.F ht⟩) hS.2.2 d_VA_open_65
  · have q9 := nleI c9
    refine lv_aload_n hx hb d_VA_open_12 rfl (lv_at hl 0 rfl) ?_
    refine va_get (D := (dC, dI)) (ci := 9) (v := .ref bo) (C := R_VA) (T := F_VA) (N := 11) hx hb hts i_VA hown hK hP 0 rfl rfl 6 (by decide) (hts _ kF_VA_15) (fun _ h9 => h9) rfl d_VA_open_13 ?_
    refine lv_aload_n hx hb d_VA_open_16 rfl (lv_at hl 0 rfl) ?_
    refine va_get (D := (dC, dI)) (ci := 9) (v := .int h0_depth) (C := R_VA) (T := F_VA) (N := 11) hx hb hts i_VA hown hK hP 0 rfl rfl 10 (by decide) (hts _ kF_VA_117) (fun _ h9 => h9) rfl d_VA_open_17 ?_
    refine lv_iload_n hx hb d_VA_open_20 rfl (lv_at hl 1 rfl) ?_
    have g21 : vp_in h0_depth 101 := vp_in_iff.mpr ⟨by (first | (apply Int.le_antisymm <;> omega) | omega), by (first | (apply Int.le_antisymm <;> omega) | omega)⟩
    refine va_iast hx hb hK hP hD hS 2 1 rfl rfl g21 d_VA_open_21 (fun H locs hP hD hS => ?_)
    generalize ef2 : upd gbo h0_depth.toNatClampNeg p0 = f2 at hP hD
    refine lv_aload_n hx hb d_VA_open_22 rfl (lv_at hl 0 rfl) ?_
    refine va_get (D := (dC, dI)) (ci := 9) (v := .ref bg) (C := R_VA) (T := F_VA) (N := 11) hx hb hts i_VA hown hK hP 0 rfl rfl 7 (by decide) (hts _ kF_VA_18) (fun _ h9 => h9) rfl d_VA_open_23 ?_
    refine lv_aload_n hx hb d_VA_open_26 rfl (lv_at hl 0 rfl) ?_
    refine va_get (D := (dC, dI)) (ci := 9) (v := .int h0_depth) (C := R_VA) (T := F_VA) (N := 11) hx hb hts i_VA hown hK hP 0 rfl rfl 10 (by decide) (hts _ kF_VA_117) (fun _ h9 => h9) rfl d_VA_open_27 ?_
    refine lv_iload_n hx hb d_VA_open_30 rfl (lv_at hl 2 rfl) ?_
    have g31 : vp_in h0_depth 101 := vp_in_iff.mpr ⟨by (first | (apply Int.le_antisymm <;> omega) | omega), by (first | (apply Int.le_antisymm <;> omega) | omega)⟩
    refine va_iast hx hb hK hP hD hS 3 2 rfl rfl g31 d_VA_open_31 (fun H locs hP hD hS => ?_)
    generalize ef3 : upd gbg h0_depth.toNatClampNeg p1 = f3 at hP hD
    refine lv_aload_n hx hb d_VA_open_32 rfl (lv_at hl 0 rfl) ?_
    refine va_get (D := (dC, dI)) (ci := 9) (v := .ref bh) (C := R_VA) (T := F_VA) (N := 11) hx hb hts i_VA hown hK hP 0 rfl rfl 8 (by decide) (hts _ kF_VA_21) (fun _ h9 => h9) rfl d_VA_open_33 ?_
    refine lv_aload_n hx hb d_VA_open_36 rfl (lv_at hl 0 rfl) ?_
    refine va_get (D := (dC, dI)) (ci := 9) (v := .int h0_depth) (C := R_VA) (T := F_VA) (N := 11) hx hb hts i_VA hown hK hP 0 rfl rfl 10 (by decide) (hts _ kF_VA_117) (fun _ h9 => h9) rfl d_VA_open_37 ?_
    refine lv_aload_n hx hb d_VA_open_40 rfl (lv_at hl 0 rfl) ?_
    refine va_get (D := (dC, dI)) (ci := 9) (v := .int h0_height) (C := R_VA) (T := F_VA) (N := 11) hx hb hts i_VA hown hK hP 0 rfl rfl 5 (by decide) (hts _ kF_VA_114) (fun _ h9 => h9) rfl d_VA_open_41 ?_
    have g44 : vp_in h0_depth 101 := vp_in_iff.mpr ⟨by (first | (apply Int.le_antisymm <;> omega) | omega), by (first | (apply Int.le_antisymm <;> omega) | omega)⟩
    refine va_iast hx hb hK hP hD hS 4 3 rfl rfl g44 d_VA_open_44 (fun H locs hP hD hS => ?_)
    generalize ef4 : upd gbh h0_depth.toNatClampNeg h0_height = f4 at hP hD
    have b_f4 : ∀ j : Nat, 0 ≤ (f4 j).toInt ∧ (f4 j).toInt ≤ 5000 := by rw [← ef4]; exact upd_b b_gbh (b_h0_height)
    refine lv_aload_n hx hb d_VA_open_45 rfl (lv_at hl 0 rfl) ?_
    refine va_get (D := (dC, dI)) (ci := 9) (v := .ref bd) (C := R_VA) (T := F_VA) (N := 11) hx hb hts i_VA hown hK hP 0 rfl rfl 9 (by decide) (hts _ kF_VA_24) (fun _ h9 => h9) rfl d_VA_open_46 ?_
    refine lv_aload_n hx hb d_VA_open_49 rfl (lv_at hl 0 rfl) ?_
    refine va_get (D := (dC, dI)) (ci := 9) (v := .int h0_depth) (C := R_VA) (T := F_VA) (N := 11) hx hb hts i_VA hown hK hP 0 rfl rfl 10 (by decide) (hts _ kF_VA_117) (fun _ h9 => h9) rfl d_VA_open_50 ?_
    refine lv_iconst (v := 0) hx hb d_VA_open_53 (by decide) ?_
    have g54 : vp_in h0_depth 101 := vp_in_iff.mpr ⟨by (first | (apply Int.le_antisymm <;> omega) | omega), by (first | (apply Int.le_antisymm <;> omega) | omega)⟩
    refine va_zast hx hb hK hP hD hS 5 4 rfl rfl g54 d_VA_open_54 (fun H locs hP hD hS => ?_)
    generalize ef5 : upd gbd h0_depth.toNatClampNeg (vp_nar .boolean 0) = f5 at hP hD
    refine lv_aload_n hx hb d_VA_open_55 rfl (lv_at hl 0 rfl) ?_
    refine lv_dup hx hb d_VA_open_56 rfl ?_
    refine va_get (D := (dC, dI)) (ci := 9) (v := .int h0_depth) (C := R_VA) (T := F_VA) (N := 11) hx hb hts i_VA hown hK hP 0 rfl rfl 10 (by decide) (hts _ kF_VA_117) (fun _ h9 => h9) rfl d_VA_open_57 ?_
    refine lv_iconst (v := 1) hx hb d_VA_open_60 (by decide) ?_
    refine lv_iadd hx hb d_VA_open_61 ?_
    refine lv_topi (fun x6 ex6 => ?_)
    have tx6 : x6.toInt = h0_depth.toInt + 1 := by have z := i32_add ex6 (by (first | (apply Int.le_antisymm <;> omega) | omega)) (by (first | (apply Int.le_antisymm <;> omega) | omega)); first | exact z | (first | (apply Int.le_antisymm <;> omega) | omega)
    refine va_put (D := (dC, dI)) (ci := 9) (v := .int x6) (ty := .int) (C := R_VA) (T := F_VA) (N := 11) hx hb hts i_VA t_VA t_VA_ok n_VA hown hK hP hD hS 0 rfl rfl 10 (by decide) (hts _ kF_VA_117) (fun _ h9 => h9) rfl (by decide +kernel) rfl rfl (Nat.le_of_ble_eq_true rfl) d_VA_open_62 (fun H locs hP hD hS => ?_)
    have hP9 := hP.sb (wq := (wz_86 h0 aw ac h0_sound h0_function ty h0_height bo bg bh bd x6 ty cty gty bo cbo f2 bg cbg f3 bh cbh f4 bd cbd f5)) [0, 1, 2, 3, 4, 5] rfl
    have hD9 := hD.sb (wq := (wz_86 h0 aw ac h0_sound h0_function ty h0_height bo bg bh bd x6 ty cty gty bo cbo f2 bg cbg f3 bh cbh f4 bd cbd f5)) [0, 1, 2, 3, 4, 5] (by decide) rfl
    exact W.vret hx hb hr (fun t ht hW => ⟨⟨(f5, f3, f4, f2, x6), rfl, ⟨b_f4, by (try dsimp only) <;> (first | (apply Int.le_antisymm <;> omega) | omega), ⟨by (try dsimp only) <;> (first | (apply Int.le_antisymm <;> omega) | omega), fun q => by rw [← ef2, ← ef3, ← ef4, ← ef5]; exact op_1 (hv q) (hp q).1 (hp q).2 (by (first | (apply Int.le_antisymm <;> omega) | omega)) (by (first | (apply Int.le_antisymm <;> omega) | omega)) (by decide)⟩⟩, va_P.he ht.symm hP9, va_K.moved hW.alike hK, hD9⟩, hS.F ht⟩) hS.2.2 d_VA_open_65
abbrev at_VA_diey (dC : Nat → ClassId) (dI : Nat → Nat → Nat) (h0 aw ac ty bo bg bh bd : Nat) (cty cbo cbg cbh cbd : ClassId) (h0_sound : Int32) (h0_function : Int32) (h0_depth : Int32) (gty : Nat → Int32) (gbo : Nat → Int32) (gbg : Nat → Int32) (gbh : Nat → Int32) (A : Nat → Prop) (u : (Nat → Int32) × Int32) (t : State) : Prop := match u with | (gbd, h0_height) => va_P (dC, dI) cls (wz_86 h0 aw ac h0_sound h0_function ty h0_height bo bg bh bd h0_depth ty cty gty bo cbo gbo bg cbg gbg bh cbh gbh bd cbd gbd) t.heap ∧ va_K (dC, dI) cls [(cty, .int), (cbo, .int), (cbg, .int), (cbh, .int), (cbd, .boolean)] t ∧ va_D A (wz_86 h0 aw ac h0_sound h0_function ty h0_height bo bg bh bd h0_depth ty cty gty bo cbo gbo bg cbg gbg bh cbh gbh bd cbd gbd)
set_option maxHeartbeats 4000000 in
set_option maxRecDepth 100000 in
theorem c_VA_diey (l : Launch) (dC : Nat → ClassId) (dI : Nat → Nat → Nat) (sz : Nat) (h0 aw ac ty bo bg bh bd : Nat) (cty cbo cbg cbh cbd : ClassId) (h0_sound : Int32) (h0_function : Int32) (h0_height : Int32) (h0_depth : Int32) (gty : Nat → Int32) (gbo : Nat → Int32) (gbg : Nat → Int32) (gbh : Nat → Int32) (gbd : Nat → Int32) (S9 : List Nat) (B9 : List zBl)  (b_h0_sound : h0_sound = 0 ∨ h0_sound = 1) (b_h0_height : 0 ≤ h0_height.toInt ∧ h0_height.toInt ≤ 5000) (b_h0_depth : 0 ≤ h0_depth.toInt ∧ h0_depth.toInt ≤ 101) (b_gty : ∀ j : Nat, (gty j).toInt ≠ 64) (b_gbh : ∀ j : Nat, 0 ≤ (gbh j).toInt ∧ (gbh j).toInt ≤ 5000)   (hv : h0_sound.toInt = 1 → vA S9 B9 h0_height h0_depth gty gbo gbg gbh gbd) : Met l y_VA_die w_VA_die ({ frames := 0, cells := 0, slots := 0, locals := 0 }) (va_Pc [.ref h0] (fun U => U.heap.size = sz ∧ va_P (dC, dI) cls (wz_86 h0 aw ac h0_sound h0_function ty h0_height bo bg bh bd h0_depth ty cty gty bo cbo gbo bg cbg gbg bh cbh gbh bd cbd gbd) U.heap ∧ va_K (dC, dI) cls [(cty, .int), (cbo, .int), (cbg, .int), (cbh, .int), (cbd, .boolean)] U ∧ va_D (fun _ => True) (wz_86 h0 aw ac h0_sound h0_function ty h0_height bo bg bh bd h0_depth ty cty gty bo cbo gbo bg cbg gbg bh cbh gbh bd cbd gbd))) (va_Qv (fun (u : (Nat → Int32) × Int32) => match u with | (gbd2, h0_height2) => (0 ≤ h0_height2.toInt ∧ h0_height2.toInt ≤ 5000) ∧ ((h0_sound.toInt = 1 → h0_height2.toInt ≤ h0_height.toInt ∧ vA (vdie S9 B9).1 (vdie S9 B9).2 h0_height2 h0_depth gty gbo gbg gbh gbd2))) (at_VA_diey dC dI h0 aw ac ty bo bg bh bd cty cbo cbg cbh cbd h0_sound h0_function h0_depth gty gbo gbg gbh (va_A (wz_86 h0 aw ac h0_sound h0_function ty h0_height bo bg bh bd h0_depth ty cty gty bo cbo gbo bg cbg gbg bh cbh gbh bd cbd gbd) sz)) (va_A (wz_86 h0 aw ac h0_sound h0_function ty h0_height bo bg bh bd h0_depth ty cty gty bo cbo gbo bg cbg gbg bh cbh gbh bd cbd gbd) sz)) 0 0 (va_A (wz_86 h0 aw ac h0_sound h0_function ty h0_height bo bg bh bd h0_depth ty cty gty bo cbo gbo bg cbg gbg bh cbh gbh bd cbd gbd) sz) := by
  refine Met.ofW (cc := b_VA_die) (maxL := 1) (ret := none) (by decide) rfl ?_
  intro p e s m args below meth c s₁ B hml hv
  obtain ⟨rfl, hsz, hP, hK, hD0⟩ := hv
  have hx := B.exec
  have hb := B.bytes
  have hr := B.returns
  have hts0 := atoms_spec (ws := w_VA_die) B.pre
  have hts : ∀ w ∈ lw_g, w.before _ s = true := fun w h => hts0 w (List.mem_cons_of_mem _ h)
  have hown : s.vm.findClass R_VA = some m.cls := findClass_of_methodNamed B.named
  have hlocks := B.notSynchronized
  clear hts0
  subst hsz
  have hD := hD0.self (sz := s.heap.size)
  generalize hAe : va_A (wz_86 h0 aw ac h0_sound h0_function ty h0_height bo bg bh bd h0_depth ty cty gty bo cbo gbo bg cbg gbg bh cbh gbh bd cbd gbd) s.heap.size = A at hD ⊢
  have hA : ∀ q : Nat, s.heap.size ≤ q → A q := fun q h => by rw [← hAe]; exact Or.inr h
  clear hAe
  have hP : va_P (dC, dI) cls (wz_86 h0 aw ac h0_sound h0_function ty h0_height bo bg bh bd h0_depth ty cty gty bo cbo gbo bg cbg gbg bh cbh gbh bd cbd gbd) s.heap := hP
  have hl := lv_entry ([.ref h0]) (n := 1) (Nat.le_of_ble_eq_true rfl)
  rw [lg_entry_eq]
  generalize (lg_sl ([.ref h0]) ++ List.replicate (1 - (lg_sl ([.ref h0])).length) Slot.unset).toArray = ls at hl ⊢
  have hl : lv_has ls 1 [(0, .ref h0)] := hl
  have k0 : (0 : Int32).toInt = 0 := by decide
  refine w_gen (A := A) hP (fun H locs hP hS => ?_)
  have k1 : (1 : Int32).toInt = 1 := by decide
  have th0_sound := b01 b_h0_sound
  refine lv_aload_n hx hb d_VA_die_0 rfl (lv_at hl 0 rfl) ?_
  refine va_get (D := (dC, dI)) (ci := 9) (v := .int h0_depth) (C := R_VA) (T := F_VA) (N := 11) hx hb hts i_VA hown hK hP 0 rfl rfl 10 (by decide) (hts _ kF_VA_117) (fun _ h9 => h9) rfl d_VA_die_1 ?_
  refine lv_if_le (tgt := 34) hx hb d_VA_die_4 (by decide) (fun c4 => ?_) (fun c4 => ?_)
  · have q4 := leI c4
    have hP9 := hP.sb (wq := (wz_86 h0 aw ac h0_sound h0_function ty h0_height bo bg bh bd h0_depth ty cty gty bo cbo gbo bg cbg gbg bh cbh gbh bd cbd gbd)) [0, 1, 2, 3, 4, 5] rfl
    have hD9 := hD.sb (wq := (wz_86 h0 aw ac h0_sound h0_function ty h0_height bo bg bh bd h0_depth ty cty gty bo cbo gbo bg cbg gbg bh cbh gbh bd cbd gbd)) [0, 1, 2, 3, 4, 5] (by decide) rfl
    exact W.vret hx hb hr (fun t ht hW => ⟨⟨(gbd, h0_height), rfl, ⟨b_h0_height, (fun q => ⟨by (first | (apply Int.le_antisymm <;> omega) | omega), di_0 (hv q) (by (first | (apply Int.le_antisymm <;> omega) | omega))⟩)⟩, va_P.he ht.symm hP9, va_K.moved hW.alike hK, hD9⟩, hS.F ht⟩) hS.2.2 d_VA_die_34
  · have q4 := nleI c4
    refine lv_aload_n hx hb d_VA_die_7 rfl (lv_at hl 0 rfl) ?_
    refine lv_aload_n hx hb d_VA_die_8 rfl (lv_at hl 0 rfl) ?_
    refine va_get (D := (dC, dI)) (ci := 9) (v := .ref bh) (C := R_VA) (T := F_VA) (N := 11) hx hb hts i_VA hown hK hP 0 rfl rfl 8 (by decide) (hts _ kF_VA_21) (fun _ h9 => h9) rfl d_VA_die_9 ?_
    refine lv_aload_n hx hb d_VA_die_12 rfl (lv_at hl 0 rfl) ?_
    refine va_get (D := (dC, dI)) (ci := 9) (v := .int h0_depth) (C := R_VA) (T := F_VA) (N := 11) hx hb hts i_VA hown hK hP 0 rfl rfl 10 (by decide) (hts _ kF_VA_117) (fun _ h9 => h9) rfl d_VA_die_13 ?_
    refine lv_iconst (v := 1) hx hb d_VA_die_16 (by decide) ?_
    refine lv_isub hx hb d_VA_die_17 ?_
    refine lv_topi (fun x1 ex1 => ?_)
    have tx1 : x1.toInt = h0_depth.toInt - 1 := by have z := i32_sub ex1 (by (first | (apply Int.le_antisymm <;> omega) | omega)) (by (first | (apply Int.le_antisymm <;> omega) | omega)); first | exact z | (first | (apply Int.le_antisymm <;> omega) | omega)
    have g18 : vp_in x1 101 := vp_in_iff.mpr ⟨by (first | (apply Int.le_antisymm <;> omega) | omega), by (first | (apply Int.le_antisymm <;> omega) | omega)⟩
    refine va_iald hx hb hK hP 4 3 rfl rfl g18 d_VA_die_18 ?_
    refine lv_topi (fun x2 ex2 => ?_)
    have tx2 := b_gbh x1.toNatClampNeg
    rw [← ex2] at tx2
    rw [i32_natI (x := x1) (n := h0_depth.toInt - 1) (by (first | (apply Int.le_antisymm <;> omega) | omega))] at ex2
    have ux2 : x2.toInt = (gbh (h0_depth.toInt - 1).toNat).toInt := by rw [ex2]
    refine va_put (D := (dC, dI)) (ci := 9) (v := .int x2) (ty := .int) (C := R_VA) (T := F_VA) (N := 11) hx hb hts i_VA t_VA t_VA_ok n_VA hown hK hP hD hS 0 rfl rfl 5 (by decide) (hts _ kF_VA_114) (fun _ h9 => h9) rfl (by decide +kernel) rfl rfl (Nat.le_of_ble_eq_true rfl) d_VA_die_19 (fun H locs hP hD hS => ?_)
    refine lv_aload_n hx hb d_VA_die_22 rfl (lv_at hl 0 rfl) ?_
    refine va_get (D := (dC, dI)) (ci := 9) (v := .ref bd) (C := R_VA) (T := F_VA) (N := 11) hx hb hts i_VA hown hK hP 0 rfl rfl 9 (by decide) (hts _ kF_VA_24) (fun _ h9 => h9) rfl d_VA_die_23 ?_
    refine lv_aload_n hx hb d_VA_die_26 rfl (lv_at hl 0 rfl) ?_
    refine va_get (D := (dC, dI)) (ci := 9) (v := .int h0_depth) (C := R_VA) (T := F_VA) (N := 11) hx hb hts i_VA hown hK hP 0 rfl rfl 10 (by decide) (hts _ kF_VA_117) (fun _ h9 => h9) rfl d_VA_die_27 ?_
    refine lv_iconst (v := 1) hx hb d_VA_die_30 (by decide) ?_
    refine lv_isub hx hb d_VA_die_31 ?_
    refine lv_topi (fun x3 ex3 => ?_)
    have tx3 : x3.toInt = h0_depth.toInt - 1 := by have z := i32_sub ex3 (by (first | (apply Int.le_antisymm <;> omega) | omega)) (by (first | (apply Int.le_antisymm <;> omega) | omega)); first | exact z | (first | (apply Int.le_antisymm <;> omega) | omega)
    refine lv_iconst (v := 1) hx hb d_VA_die_32 (by decide) ?_
    have g33 : vp_in x3 101 := vp_in_iff.mpr ⟨by (first | (apply Int.le_antisymm <;> omega) | omega), by (first | (apply Int.le_antisymm <;> omega) | omega)⟩
    refine va_zast hx hb hK hP hD hS 5 4 rfl rfl g33 d_VA_die_33 (fun H locs hP hD hS => ?_)
    generalize ef4 : upd gbd x3.toNatClampNeg (vp_nar .boolean 1) = f4 at hP hD
    have hP9 := hP.sb (wq := (wz_86 h0 aw ac h0_sound h0_function ty x2 bo bg bh bd h0_depth ty cty gty bo cbo gbo bg cbg gbg bh cbh gbh bd cbd f4)) [0, 1, 2, 3, 4, 5] rfl
    have hD9 := hD.sb (wq := (wz_86 h0 aw ac h0_sound h0_function ty x2 bo bg bh bd h0_depth ty cty gty bo cbo gbo bg cbg gbg bh cbh gbh bd cbd f4)) [0, 1, 2, 3, 4, 5] (by decide) rfl
    exact W.vret hx hb hr (fun t ht hW => ⟨⟨(f4, x2), rfl, ⟨tx2, (fun q => by rw [← ef4, i32_natI (x := x3) (n := h0_depth.toInt - 1) (by (first | (apply Int.le_antisymm <;> omega) | omega))]; exact di_1 (hv q) (by (first | (apply Int.le_antisymm <;> omega) | omega)) (by (first | (apply Int.le_antisymm <;> omega) | omega)) (by decide))⟩, va_P.he ht.symm hP9, va_K.moved hW.alike hK, hD9⟩, hS.F ht⟩) hS.2.2 d_VA_die_34
abbrev at_VA_closey (dC : Nat → ClassId) (dI : Nat → Nat → Nat) (h0 aw ac ty bo bg bh bd : Nat) (cty cbo cbg cbh cbd : ClassId) (h0_function : Int32) (gty : Nat → Int32) (gbo : Nat → Int32) (gbg : Nat → Int32) (gbh : Nat → Int32) (gbd : Nat → Int32) (A : Nat → Prop) (u : Int32 × Int32 × Int32) (t : State) : Prop := match u with | (h0_depth, h0_height, h0_sound) => va_P (dC, dI) cls (wz_86 h0 aw ac h0_sound h0_function ty h0_height bo bg bh bd h0_depth ty cty gty bo cbo gbo bg cbg gbg bh cbh gbh bd cbd gbd) t.heap ∧ va_K (dC, dI) cls [(cty, .int), (cbo, .int), (cbg, .int), (cbh, .int), (cbd, .boolean)] t ∧ va_D A (wz_86 h0 aw ac h0_sound h0_function ty h0_height bo bg bh bd h0_depth ty cty gty bo cbo gbo bg cbg gbg bh cbh gbh bd cbd gbd)
set_option maxHeartbeats 4000000 in
set_option maxRecDepth 100000 in
theorem c_VA_closey (l : Launch) (dC : Nat → ClassId) (dI : Nat → Nat → Nat) (sz : Nat) (h0 aw ac ty bo bg bh bd : Nat) (cty cbo cbg cbh cbd : ClassId) (h0_sound : Int32) (h0_function : Int32) (h0_height : Int32) (h0_depth : Int32) (gty : Nat → Int32) (gbo : Nat → Int32) (gbg : Nat → Int32) (gbh : Nat → Int32) (gbd : Nat → Int32) (S9 : List Nat) (B9 : List zBl)  (b_h0_sound : h0_sound = 0 ∨ h0_sound = 1) (b_h0_height : 0 ≤ h0_height.toInt ∧ h0_height.toInt ≤ 5000) (b_h0_depth : 0 ≤ h0_depth.toInt ∧ h0_depth.toInt ≤ 101) (b_gty : ∀ j : Nat, (gty j).toInt ≠ 64) (b_gbh : ∀ j : Nat, 0 ≤ (gbh j).toInt ∧ (gbh j).toInt ≤ 5000)   (hv : h0_sound.toInt = 1 → vA S9 B9 h0_height h0_depth gty gbo gbg gbh gbd) (hd : h0_sound.toInt = 1 → 1 ≤ h0_depth.toInt) : Met l y_VA_close w_VA_close ({ frames := 2, cells := 0, slots := 0, locals := 42 }) (va_Pc [.ref h0] (fun U => U.heap.size = sz ∧ va_P (dC, dI) cls (wz_86 h0 aw ac h0_sound h0_function ty h0_height bo bg bh bd h0_depth ty cty gty bo cbo gbo bg cbg gbg bh cbh gbh bd cbd gbd) U.heap ∧ va_K (dC, dI) cls [(cty, .int), (cbo, .int), (cbg, .int), (cbh, .int), (cbd, .boolean)] U ∧ va_D (fun _ => True) (wz_86 h0 aw ac h0_sound h0_function ty h0_height bo bg bh bd h0_depth ty cty gty bo cbo gbo bg cbg gbg bh cbh gbh bd cbd gbd))) (va_Qv (fun (u : Int32 × Int32 × Int32) => match u with | (h0_depth2, h0_height2, h0_sound2) => (0 ≤ h0_depth2.toInt ∧ h0_depth2.toInt ≤ 101) ∧ (0 ≤ h0_height2.toInt ∧ h0_height2.toInt ≤ 5000) ∧ (h0_sound2 = 0 ∨ h0_sound2 = 1) ∧ (h0_height2.toInt ≤ h0_height.toInt ∧ (h0_depth2.toInt = h0_depth.toInt - 1 ∨ (h0_depth.toInt = 0 ∧ h0_depth2.toInt = 0)) ∧ clz S9 B9 h0_sound h0_sound2 h0_height2 h0_depth2 gty gbo gbg gbh gbd)) (at_VA_closey dC dI h0 aw ac ty bo bg bh bd cty cbo cbg cbh cbd h0_function gty gbo gbg gbh gbd (va_A (wz_86 h0 aw ac h0_sound h0_function ty h0_height bo bg bh bd h0_depth ty cty gty bo cbo gbo bg cbg gbg bh cbh gbh bd cbd gbd) sz)) (va_A (wz_86 h0 aw ac h0_sound h0_function ty h0_height bo bg bh bd h0_depth ty cty gty bo cbo gbo bg cbg gbg bh cbh gbh bd cbd gbd) sz)) 0 0 (va_A (wz_86 h0 aw ac h0_sound h0_function ty h0_height bo bg bh bd h0_depth ty cty gty bo cbo gbo bg cbg gbg bh cbh gbh bd cbd gbd) sz) := by
  refine Met.ofW (cc := b_VA_close) (maxL := 1) (ret := none) (by decide) rfl ?_
  intro p e s m args below meth c s₁ B hml hv
  obtain ⟨rfl, hsz, hP, hK, hD0⟩ := hv
  have hx := B.exec
  have hb := B.bytes
  have hr := B.returns
  have hts0 := atoms_spec (ws := w_VA_close) B.pre
  have hts : ∀ w ∈ lw_g, w.before _ s = true := fun w h => hts0 w (List.mem_cons_of_mem _ h)
  have hown : s.vm.findClass R_VA = some m.cls := findClass_of_methodNamed B.named
  have hlocks := B.notSynchronized
  clear hts0
  subst hsz
  have hD := hD0.self (sz := s.heap.size)
  generalize hAe : va_A (wz_86 h0 aw ac h0_sound h0_function ty h0_height bo bg bh bd h0_depth ty cty gty bo cbo gbo bg cbg gbg bh cbh gbh bd cbd gbd) s.heap.size = A at hD ⊢
  have hA : ∀ q : Nat, s.heap.size ≤ q → A q := fun q h => by rw [← hAe]; exact Or.inr h
  clear hAe
  have hP : va_P (dC, dI) cls (wz_86 h0 aw ac h0_sound h0_function ty h0_height bo bg bh bd h0_depth ty cty gty bo cbo gbo bg cbg gbg bh cbh gbh bd cbd gbd) s.heap := hP
  have hl := lv_entry ([.ref h0]) (n := 1) (Nat.le_of_ble_eq_true rfl)
  rw [lg_entry_eq]
  generalize (lg_sl ([.ref h0]) ++ List.replicate (1 - (lg_sl ([.ref h0])).length) Slot.unset).toArray = ls at hl ⊢
  have hl : lv_has ls 1 [(0, .ref h0)] := hl
  have k0 : (0 : Int32).toInt = 0 := by decide
  refine w_gen (A := A) hP (fun H locs hP hS => ?_)
  have k1 : (1 : Int32).toInt = 1 := by decide
  have th0_sound := b01 b_h0_sound
  refine lv_aload_n hx hb d_VA_close_0 rfl (lv_at hl 0 rfl) ?_
  refine va_get (D := (dC, dI)) (ci := 9) (v := .int h0_depth) (C := R_VA) (T := F_VA) (N := 11) hx hb hts i_VA hown hK hP 0 rfl rfl 10 (by decide) (hts _ kF_VA_117) (fun _ h9 => h9) rfl d_VA_close_1 ?_
  refine lv_if_le (tgt := 66) hx hb d_VA_close_4 (by decide) (fun c4 => ?_) (fun c4 => ?_)
  · have q4 := leI c4
    have hP9 := hP.sb (wq := (wz_86 h0 aw ac h0_sound h0_function ty h0_height bo bg bh bd h0_depth ty cty gty bo cbo gbo bg cbg gbg bh cbh gbh bd cbd gbd)) [0, 1, 2, 3, 4, 5] rfl
    have hD9 := hD.sb (wq := (wz_86 h0 aw ac h0_sound h0_function ty h0_height bo bg bh bd h0_depth ty cty gty bo cbo gbo bg cbg gbg bh cbh gbh bd cbd gbd)) [0, 1, 2, 3, 4, 5] (by decide) rfl
    exact W.vret hx hb hr (fun t ht hW => ⟨⟨(h0_depth, h0_height, h0_sound), rfl, ⟨b_h0_depth, b_h0_height, b_h0_sound, ⟨by (try dsimp only) <;> (first | (apply Int.le_antisymm <;> omega) | omega), Or.inr ⟨by (try dsimp only) <;> (first | (apply Int.le_antisymm <;> omega) | omega), by (try dsimp only) <;> (first | (apply Int.le_antisymm <;> omega) | omega)⟩, cl_0 (by rcases th0_sound with q | q; (exact q); (have := hd q; (first | (apply Int.le_antisymm <;> omega) | omega)))⟩⟩, va_P.he ht.symm hP9, va_K.moved hW.alike hK, hD9⟩, hS.F ht⟩) hS.2.2 d_VA_close_66
  · have q4 := nleI c4
    refine lv_aload_n hx hb d_VA_close_7 rfl (lv_at hl 0 rfl) ?_
    refine lv_aload_n hx hb d_VA_close_8 rfl (lv_at hl 0 rfl) ?_
    refine va_get (D := (dC, dI)) (ci := 9) (v := .ref bg) (C := R_VA) (T := F_VA) (N := 11) hx hb hts i_VA hown hK hP 0 rfl rfl 7 (by decide) (hts _ kF_VA_18) (fun _ h9 => h9) rfl d_VA_close_9 ?_
    refine lv_aload_n hx hb d_VA_close_12 rfl (lv_at hl 0 rfl) ?_
    refine va_get (D := (dC, dI)) (ci := 9) (v := .int h0_depth) (C := R_VA) (T := F_VA) (N := 11) hx hb hts i_VA hown hK hP 0 rfl rfl 10 (by decide) (hts _ kF_VA_117) (fun _ h9 => h9) rfl d_VA_close_13 ?_
    refine lv_iconst (v := 1) hx hb d_VA_close_16 (by decide) ?_
    refine lv_isub hx hb d_VA_close_17 ?_
    refine lv_topi (fun x1 ex1 => ?_)
    have tx1 : x1.toInt = h0_depth.toInt - 1 := by have z := i32_sub ex1 (by (first | (apply Int.le_antisymm <;> omega) | omega)) (by (first | (apply Int.le_antisymm <;> omega) | omega)); first | exact z | (first | (apply Int.le_antisymm <;> omega) | omega)
    have g18 : vp_in x1 101 := vp_in_iff.mpr ⟨by (first | (apply Int.le_antisymm <;> omega) | omega), by (first | (apply Int.le_antisymm <;> omega) | omega)⟩
    refine va_iald hx hb hK hP 3 2 rfl rfl g18 d_VA_close_18 ?_
    refine lv_topi (fun x2 ex2 => ?_)
    rw [i32_natI (x := x1) (n := h0_depth.toInt - 1) (by (first | (apply Int.le_antisymm <;> omega) | omega))] at ex2
    have g18 := ex2
    have hPc := hP.sb (wq := (wz_86 h0 aw ac h0_sound h0_function ty h0_height bo bg bh bd h0_depth ty cty gty bo cbo gbo bg cbg gbg bh cbh gbh bd cbd gbd)) [0, 1, 2, 3, 4, 5] rfl
    have hDc := hD.sb (wq := (wz_86 h0 aw ac h0_sound h0_function ty h0_height bo bg bh bd h0_depth ty cty gty bo cbo gbo bg cbg gbg bh cbh gbh bd cbd gbd)) [0, 1, 2, 3, 4, 5] (by decide) rfl
    have hKc := hK.sb (tyq := [(cty, .int), (cbo, .int), (cbg, .int), (cbh, .int), (cbd, .boolean)]) [0, 1, 2, 3, 4] rfl
    have hFc := va_free (wc := (wz_86 h0 aw ac h0_sound h0_function ty h0_height bo bg bh bd h0_depth ty cty gty bo cbo gbo bg cbg gbg bh cbh gbh bd cbd gbd)) hD hS hA [0, 1, 2, 3, 4, 5] rfl
    refine va_callv (va_runV (As := [.int x2]) (rest := []) ⟨hx, hb, hml, hown, hts⟩ (c_VA_popy l dC dI H.size h0 aw ac ty bo bg bh bd cty cbo cbg cbh cbd h0_sound h0_function h0_height h0_depth gty gbo gbg gbh gbd S9 B9 (b_h0_sound) (b_h0_height) (b_h0_depth) (b_gty) (b_gbh) x2 (hv) ((fun q => by rw [g18]; exact cl_g hv (by (first | (apply Int.le_antisymm <;> omega) | omega)) q))) (cwV 1 hts (gV kM_VA_161 kV_VA_pop kS_VA_pop kI_VA kC_VA_pop) rfl rfl rfl (by decide +kernel) ⟨Nat.le_of_ble_eq_true rfl, Nat.le_of_ble_eq_true rfl⟩) ⟨fun a U g mk z => by obtain ⟨z0, z1, zP, zK, zD⟩ := z; exact ⟨z0, z1, zP, va_K.moved (u := U) (U := U.calling g mk a) (Vm.Alike.refl U.vm) zK, zD⟩, va_recv hKc hPc (ci := 9) (q0 := 0) rfl rfl, fun U hU hW => ⟨rfl, by rw [hU], va_P.he hU.symm hPc, va_K.moved hW.alike hKc, hDc.weaken (fun _ _ _ _ => trivial)⟩⟩ rfl rfl hl.1 rfl (lv_room (Nat.le_of_ble_eq_true rfl)) d_VA_close_19 ⟨(Nat.zero_le _), (Nat.zero_le _)⟩) hS (fun q _ h => hFc q h) hFc (fun u t H1 locs ht hvm hw hB hz1 hk1 hS => ?_)
    obtain ⟨n4, n5⟩ := u
    try dsimp only at hw
    obtain ⟨bn4, bn5, xr3⟩ := hw
    try clear hw
    have tn5 := b01 bn5
    obtain ⟨hP1, hK1, hD1⟩ := hB
    replace hP1 := va_P.he ht hP1
    obtain ⟨hP, hD⟩ := va_join (wr := []) (w1 := (wz_86 h0 aw ac n5 h0_function ty n4 bo bg bh bd h0_depth ty cty gty bo cbo gbo bg cbg gbg bh cbh gbh bd cbd gbd)) hP hD [0, 1, 2, 3, 4, 5] [] rfl rfl (by decide) (by decide) hk1 hFc hP1 hD1
    clear hPc hDc hKc hFc hz1 hk1 hP1 hK1 hD1
    rename Heap => H
    have hP : va_P (dC, dI) cls (wz_86 h0 aw ac n5 h0_function ty n4 bo bg bh bd h0_depth ty cty gty bo cbo gbo bg cbg gbg bh cbh gbh bd cbd gbd) H := hP
    have hD : va_D A (wz_86 h0 aw ac n5 h0_function ty n4 bo bg bh bd h0_depth ty cty gty bo cbo gbo bg cbg gbg bh cbh gbh bd cbd gbd) := hD
    refine lv_aload_n hx hb d_VA_close_22 rfl (lv_at hl 0 rfl) ?_
    refine lv_aload_n hx hb d_VA_close_23 rfl (lv_at hl 0 rfl) ?_
    refine va_get (D := (dC, dI)) (ci := 9) (v := .int n5) (C := R_VA) (T := F_VA) (N := 11) hx hb hts i_VA hown hK hP 0 rfl rfl 2 (by decide) (hts _ kF_VA_39) (fun _ h9 => h9) rfl d_VA_close_24 ?_
    refine w_cut (pc2 := 53) (σ := Int32) (fun u H locs ls => match u with | j53_s0 => (j53_s0 = 0 ∨ j53_s0 = 1) ∧ ((j53_s0.toInt = 1 ∧ n5.toInt = 1 ∧ n4.toInt = (gbh (h0_depth.toInt - 1).toNat).toInt) ∨ (j53_s0.toInt = 0 ∧ ¬ (n5.toInt = 1 ∧ n4.toInt = (gbh (h0_depth.toInt - 1).toNat).toInt))) ∧ va_P (dC, dI) cls (wz_86 h0 aw ac n5 h0_function ty n4 bo bg bh bd h0_depth ty cty gty bo cbo gbo bg cbg gbg bh cbh gbh bd cbd gbd) H ∧ va_D A (wz_86 h0 aw ac n5 h0_function ty n4 bo bg bh bd h0_depth ty cty gty bo cbo gbo bg cbg gbg bh cbh gbh bd cbd gbd) ∧ va_S A s.heap H locs ∧ lv_has ls 1 [(0, .ref h0)]) (fun u => match u with | j53_s0 => [.int j53_s0, .ref h0]) ?_ (fun jn53 => ?_)
    · intro u H locs ls hI
      obtain ⟨j53_s0, rfl⟩ : ∃ z, z = u := ⟨_, rfl⟩
      obtain ⟨b_j53_s0, y53, hP, hD, hS, hl⟩ := hI
      have tj53_s0 := b01 b_j53_s0
      refine va_put (D := (dC, dI)) (ci := 9) (v := .int j53_s0) (ty := .boolean) (C := R_VA) (T := F_VA) (N := 11) hx hb hts i_VA t_VA t_VA_ok n_VA hown hK hP hD hS 0 rfl rfl 2 (by decide) (hts _ kF_VA_39) (fun _ h9 => h9) rfl (by decide +kernel) (zn01 (b_j53_s0)) (fz01 (b_j53_s0)) (Nat.le_of_ble_eq_true rfl) d_VA_close_53 (fun H locs hP hD hS => ?_)
      refine lv_aload_n hx hb d_VA_close_56 rfl (lv_at hl 0 rfl) ?_
      refine lv_dup hx hb d_VA_close_57 rfl ?_
      refine va_get (D := (dC, dI)) (ci := 9) (v := .int h0_depth) (C := R_VA) (T := F_VA) (N := 11) hx hb hts i_VA hown hK hP 0 rfl rfl 10 (by decide) (hts _ kF_VA_117) (fun _ h9 => h9) rfl d_VA_close_58 ?_
      refine lv_iconst (v := 1) hx hb d_VA_close_61 (by decide) ?_
      refine lv_isub hx hb d_VA_close_62 ?_
      refine lv_topi (fun x6 ex6 => ?_)
      have tx6 : x6.toInt = h0_depth.toInt - 1 := by have z := i32_sub ex6 (by (first | (apply Int.le_antisymm <;> omega) | omega)) (by (first | (apply Int.le_antisymm <;> omega) | omega)); first | exact z | (first | (apply Int.le_antisymm <;> omega) | omega)
      refine va_put (D := (dC, dI)) (ci := 9) (v := .int x6) (ty := .int) (C := R_VA) (T := F_VA) (N := 11) hx hb hts i_VA t_VA t_VA_ok n_VA hown hK hP hD hS 0 rfl rfl 10 (by decide) (hts _ kF_VA_117) (fun _ h9 => h9) rfl (by decide +kernel) rfl rfl (Nat.le_of_ble_eq_true rfl) d_VA_close_63 (fun H locs hP hD hS => ?_)
      have hP9 := hP.sb (wq := (wz_86 h0 aw ac j53_s0 h0_function ty n4 bo bg bh bd x6 ty cty gty bo cbo gbo bg cbg gbg bh cbh gbh bd cbd gbd)) [0, 1, 2, 3, 4, 5] rfl
      have hD9 := hD.sb (wq := (wz_86 h0 aw ac j53_s0 h0_function ty n4 bo bg bh bd x6 ty cty gty bo cbo gbo bg cbg gbg bh cbh gbh bd cbd gbd)) [0, 1, 2, 3, 4, 5] (by decide) rfl
      exact W.vret hx hb hr (fun t ht hW => ⟨⟨(x6, n4, j53_s0), rfl, ⟨by (try dsimp only) <;> (first | (apply Int.le_antisymm <;> omega) | omega), bn4, b_j53_s0, ⟨by (try dsimp only) <;> (first | (apply Int.le_antisymm <;> omega) | omega), Or.inl (by (try dsimp only) <;> (first | (apply Int.le_antisymm <;> omega) | omega)), cl_1 hv (by (first | (apply Int.le_antisymm <;> omega) | omega)) g18 xr3.2 y53 (by (first | (apply Int.le_antisymm <;> omega) | omega)) th0_sound⟩⟩, va_P.he ht.symm hP9, va_K.moved hW.alike hK, hD9⟩, hS.F ht⟩) hS.2.2 d_VA_close_66
    · skip
      refine w_cut (pc2 := 52) (σ := Unit) (fun u H locs ls => match u with | _ => (¬ (n5.toInt = 1 ∧ n4.toInt = (gbh (h0_depth.toInt - 1).toNat).toInt)) ∧ va_P (dC, dI) cls (wz_86 h0 aw ac n5 h0_function ty n4 bo bg bh bd h0_depth ty cty gty bo cbo gbo bg cbg gbg bh cbh gbh bd cbd gbd) H ∧ va_D A (wz_86 h0 aw ac n5 h0_function ty n4 bo bg bh bd h0_depth ty cty gty bo cbo gbo bg cbg gbg bh cbh gbh bd cbd gbd) ∧ va_S A s.heap H locs ∧ lv_has ls 1 [(0, .ref h0)]) (fun u => match u with | _ => [.ref h0]) ?_ (fun jn52 => ?_)
      · intro u H locs ls hI
        obtain ⟨y52, hP, hD, hS, hl⟩ := hI
        refine lv_iconst (v := 0) hx hb d_VA_close_52 (by decide) ?_
        exact jn53 0 _ _ _ ⟨Or.inl rfl, by (try dsimp only) <;> (first | (apply Int.le_antisymm <;> omega) | omega), hP, hD, hS, lv_sub hl [0] rfl⟩
      · skip
        refine lv_if_eq (tgt := 52) hx hb d_VA_close_27 (by decide) (fun c27 => ?_) (fun c27 => ?_)
        · have q27 := eqI c27
          exact jn52 () _ _ _ ⟨by (try dsimp only) <;> (first | (apply Int.le_antisymm <;> omega) | omega), hP, hD, hS, lv_sub hl [0] rfl⟩
        · have q27 := neI c27
          refine lv_aload_n hx hb d_VA_close_30 rfl (lv_at hl 0 rfl) ?_
          refine va_get (D := (dC, dI)) (ci := 9) (v := .int n4) (C := R_VA) (T := F_VA) (N := 11) hx hb hts i_VA hown hK hP 0 rfl rfl 5 (by decide) (hts _ kF_VA_114) (fun _ h9 => h9) rfl d_VA_close_31 ?_
          refine lv_aload_n hx hb d_VA_close_34 rfl (lv_at hl 0 rfl) ?_
          refine va_get (D := (dC, dI)) (ci := 9) (v := .ref bh) (C := R_VA) (T := F_VA) (N := 11) hx hb hts i_VA hown hK hP 0 rfl rfl 8 (by decide) (hts _ kF_VA_21) (fun _ h9 => h9) rfl d_VA_close_35 ?_
          refine lv_aload_n hx hb d_VA_close_38 rfl (lv_at hl 0 rfl) ?_
          refine va_get (D := (dC, dI)) (ci := 9) (v := .int h0_depth) (C := R_VA) (T := F_VA) (N := 11) hx hb hts i_VA hown hK hP 0 rfl rfl 10 (by decide) (hts _ kF_VA_117) (fun _ h9 => h9) rfl d_VA_close_39 ?_
          refine lv_iconst (v := 1) hx hb d_VA_close_42 (by decide) ?_
          refine lv_isub hx hb d_VA_close_43 ?_
          refine lv_topi (fun x7 ex7 => ?_)
          have tx7 : x7.toInt = h0_depth.toInt - 1 := by have z := i32_sub ex7 (by (first | (apply Int.le_antisymm <;> omega) | omega)) (by (first | (apply Int.le_antisymm <;> omega) | omega)); first | exact z | (first | (apply Int.le_antisymm <;> omega) | omega)
          have g44 : vp_in x7 101 := vp_in_iff.mpr ⟨by (first | (apply Int.le_antisymm <;> omega) | omega), by (first | (apply Int.le_antisymm <;> omega) | omega)⟩
          refine va_iald hx hb hK hP 4 3 rfl rfl g44 d_VA_close_44 ?_
          refine lv_topi (fun x8 ex8 => ?_)
          have tx8 := b_gbh x7.toNatClampNeg
          rw [← ex8] at tx8
          rw [i32_natI (x := x7) (n := h0_depth.toInt - 1) (by (first | (apply Int.le_antisymm <;> omega) | omega))] at ex8
          have ux8 : x8.toInt = (gbh (h0_depth.toInt - 1).toNat).toInt := by rw [ex8]
          refine lv_icmp_ne (tgt := 52) hx hb d_VA_close_45 (by decide) (fun c45 => ?_) (fun c45 => ?_)
          · have q45 := neI c45
            exact jn52 () _ _ _ ⟨by (try dsimp only) <;> (first | (apply Int.le_antisymm <;> omega) | omega), hP, hD, hS, lv_sub hl [0] rfl⟩
          · have q45 := eqI c45
            refine lv_iconst (v := 1) hx hb d_VA_close_48 (by decide) ?_
            refine lv_goto (tgt := 53) hx hb d_VA_close_49 (by decide) ?_
            exact jn53 1 _ _ _ ⟨Or.inr rfl, by (try dsimp only) <;> (first | (apply Int.le_antisymm <;> omega) | omega), hP, hD, hS, lv_sub hl [0] rfl⟩
abbrev at_VA_labelTypey (dC : Nat → ClassId) (dI : Nat → Nat → Nat) (h0 aw ac ty bo bg bh bd : Nat) (cty cbo cbg cbh cbd : ClassId) (h0_function : Int32) (h0_height : Int32) (h0_depth : Int32) (gty : Nat → Int32) (gbo : Nat → Int32) (gbg : Nat → Int32) (gbh : Nat → Int32) (gbd : Nat → Int32) (A : Nat → Prop) (u : Int32) (t : State) : Prop := match u with | h0_sound => va_P (dC, dI) cls (wz_86 h0 aw ac h0_sound h0_function ty h0_height bo bg bh bd h0_depth ty cty gty bo cbo gbo bg cbg gbg bh cbh gbh bd cbd gbd) t.heap ∧ va_K (dC, dI) cls [(cty, .int), (cbo, .int), (cbg, .int), (cbh, .int), (cbd, .boolean)] t ∧ va_D A (wz_86 h0 aw ac h0_sound h0_function ty h0_height bo bg bh bd h0_depth ty cty gty bo cbo gbo bg cbg gbg bh cbh gbh bd cbd gbd)
set_option maxHeartbeats 4000000 in
set_option maxRecDepth 100000 in
theorem c_VA_labelTypey (l : Launch) (dC : Nat → ClassId) (dI : Nat → Nat → Nat) (sz : Nat) (h0 aw ac ty bo bg bh bd : Nat) (cty cbo cbg cbh cbd : ClassId) (h0_sound : Int32) (h0_function : Int32) (h0_height : Int32) (h0_depth : Int32) (gty : Nat → Int32) (gbo : Nat → Int32) (gbg : Nat → Int32) (gbh : Nat → Int32) (gbd : Nat → Int32) (S9 : List Nat) (B9 : List zBl)  (b_h0_sound : h0_sound = 0 ∨ h0_sound = 1) (b_h0_height : 0 ≤ h0_height.toInt ∧ h0_height.toInt ≤ 5000) (b_h0_depth : 0 ≤ h0_depth.toInt ∧ h0_depth.toInt ≤ 101) (b_gty : ∀ j : Nat, (gty j).toInt ≠ 64) (b_gbh : ∀ j : Nat, 0 ≤ (gbh j).toInt ∧ (gbh j).toInt ≤ 5000) (p0 : Int32) (ba0 : 0 ≤ p0.toInt ∧ p0.toInt ≤ 2147483647) (hv : h0_sound.toInt = 1 → vA S9 B9 h0_height h0_depth gty gbo gbg gbh gbd) : Met l y_VA_labelType w_VA_labelType ({ frames := 0, cells := 0, slots := 0, locals := 0 }) (va_Pc [.ref h0, .int p0] (fun U => U.heap.size = sz ∧ va_P (dC, dI) cls (wz_86 h0 aw ac h0_sound h0_function ty h0_height bo bg bh bd h0_depth ty cty gty bo cbo gbo bg cbg gbg bh cbh gbh bd cbd gbd) U.heap ∧ va_K (dC, dI) cls [(cty, .int), (cbo, .int), (cbg, .int), (cbh, .int), (cbd, .boolean)] U ∧ va_D (fun _ => True) (wz_86 h0 aw ac h0_sound h0_function ty h0_height bo bg bh bd h0_depth ty cty gty bo cbo gbo bg cbg gbg bh cbh gbh bd cbd gbd))) (va_Qi (fun (r : Int32) (u : Int32) => match u with | h0_sound2 => (h0_sound2 = 0 ∨ h0_sound2 = 1) ∧ (lbz B9 p0.toInt.toNat h0_sound h0_sound2 r)) (at_VA_labelTypey dC dI h0 aw ac ty bo bg bh bd cty cbo cbg cbh cbd h0_function h0_height h0_depth gty gbo gbg gbh gbd (va_A (wz_86 h0 aw ac h0_sound h0_function ty h0_height bo bg bh bd h0_depth ty cty gty bo cbo gbo bg cbg gbg bh cbh gbh bd cbd gbd) sz)) (va_A (wz_86 h0 aw ac h0_sound h0_function ty h0_height bo bg bh bd h0_depth ty cty gty bo cbo gbo bg cbg gbg bh cbh gbh bd cbd gbd) sz)) 0 0 (va_A (wz_86 h0 aw ac h0_sound h0_function ty h0_height bo bg bh bd h0_depth ty cty gty bo cbo gbo bg cbg gbg bh cbh gbh bd cbd gbd) sz) := by
  refine Met.ofW (cc := b_VA_labelType) (maxL := 3) (ret := (Option.some .int)) (by decide) rfl ?_
  intro p e s m args below meth c s₁ B hml hv
  obtain ⟨rfl, hsz, hP, hK, hD0⟩ := hv
  have hx := B.exec
  have hb := B.bytes
  have hr := B.returns
  have hts0 := atoms_spec (ws := w_VA_labelType) B.pre
  have hts : ∀ w ∈ lw_g, w.before _ s = true := fun w h => hts0 w (List.mem_cons_of_mem _ h)
  have hown : s.vm.findClass R_VA = some m.cls := findClass_of_methodNamed B.named
  have hlocks := B.notSynchronized
  clear hts0
  subst hsz
  have hD := hD0.self (sz := s.heap.size)
  generalize hAe : va_A (wz_86 h0 aw ac h0_sound h0_function ty h0_height bo bg bh bd h0_depth ty cty gty bo cbo gbo bg cbg gbg bh cbh gbh bd cbd gbd) s.heap.size = A at hD ⊢
  have hA : ∀ q : Nat, s.heap.size ≤ q → A q := fun q h => by rw [← hAe]; exact Or.inr h
  clear hAe
  have hP : va_P (dC, dI) cls (wz_86 h0 aw ac h0_sound h0_function ty h0_height bo bg bh bd h0_depth ty cty gty bo cbo gbo bg cbg gbg bh cbh gbh bd cbd gbd) s.heap := hP
  have hl := lv_entry ([.ref h0, .int p0]) (n := 3) (Nat.le_of_ble_eq_true rfl)
  rw [lg_entry_eq]
  generalize (lg_sl ([.ref h0, .int p0]) ++ List.replicate (3 - (lg_sl ([.ref h0, .int p0])).length) Slot.unset).toArray = ls at hl ⊢
  have hl : lv_has ls 3 [(0, .ref h0), (1, .int p0)] := hl
  have k0 : (0 : Int32).toInt = 0 := by decide
  refine w_gen (A := A) hP (fun H locs hP hS => ?_)
  have k1 : (1 : Int32).toInt = 1 := by decide
  have k3 : (3 : Int32).toInt = 3 := by decide
  have k64 : (64 : Int32).toInt = 64 := by decide
  have lo_p0 := i32_lo p0
  have hi_p0 := i32_hi p0
  have th0_sound := b01 b_h0_sound
  refine lv_iload_n hx hb d_VA_labelType_0 rfl (lv_at hl 1 rfl) ?_
  refine lv_aload_n hx hb d_VA_labelType_1 rfl (lv_at hl 0 rfl) ?_
  refine va_get (D := (dC, dI)) (ci := 9) (v := .int h0_depth) (C := R_VA) (T := F_VA) (N := 11) hx hb hts i_VA hown hK hP 0 rfl rfl 10 (by decide) (hts _ kF_VA_117) (fun _ h9 => h9) rfl d_VA_labelType_2 ?_
  refine lv_icmp_lt (tgt := 16) hx hb d_VA_labelType_5 (by decide) (fun c5 => ?_) (fun c5 => ?_)
  · have q5 := ltI c5
    refine lv_aload_n hx hb d_VA_labelType_16 rfl (lv_at hl 0 rfl) ?_
    refine va_get (D := (dC, dI)) (ci := 9) (v := .int h0_depth) (C := R_VA) (T := F_VA) (N := 11) hx hb hts i_VA hown hK hP 0 rfl rfl 10 (by decide) (hts _ kF_VA_117) (fun _ h9 => h9) rfl d_VA_labelType_17 ?_
    refine lv_iconst (v := 1) hx hb d_VA_labelType_20 (by decide) ?_
    refine lv_isub hx hb d_VA_labelType_21 ?_
    refine lv_topi (fun x1 ex1 => ?_)
    have tx1 : x1.toInt = h0_depth.toInt - 1 := by have z := i32_sub ex1 (by (first | (apply Int.le_antisymm <;> omega) | omega)) (by (first | (apply Int.le_antisymm <;> omega) | omega)); first | exact z | (first | (apply Int.le_antisymm <;> omega) | omega)
    refine lv_iload_n hx hb d_VA_labelType_22 rfl (lv_at hl 1 rfl) ?_
    refine lv_isub hx hb d_VA_labelType_23 ?_
    refine lv_topi (fun x2 ex2 => ?_)
    have tx2 : x2.toInt = x1.toInt - p0.toInt := by have z := i32_sub ex2 (by (first | (apply Int.le_antisymm <;> omega) | omega)) (by (first | (apply Int.le_antisymm <;> omega) | omega)); first | exact z | (first | (apply Int.le_antisymm <;> omega) | omega)
    refine lv_istore_n (lv' := [(2, .int x2), (0, .ref h0), (1, .int p0)]) hx hb d_VA_labelType_24 rfl hl (by decide) rfl (fun ls hl => ?_)
    refine lv_aload_n hx hb d_VA_labelType_25 rfl (lv_at hl 1 rfl) ?_
    refine va_get (D := (dC, dI)) (ci := 9) (v := .ref bo) (C := R_VA) (T := F_VA) (N := 11) hx hb hts i_VA hown hK hP 0 rfl rfl 6 (by decide) (hts _ kF_VA_15) (fun _ h9 => h9) rfl d_VA_labelType_26 ?_
    refine lv_iload_n hx hb d_VA_labelType_29 rfl (lv_at hl 0 rfl) ?_
    have g30 : vp_in x2 101 := vp_in_iff.mpr ⟨by (first | (apply Int.le_antisymm <;> omega) | omega), by (first | (apply Int.le_antisymm <;> omega) | omega)⟩
    refine va_iald hx hb hK hP 2 1 rfl rfl g30 d_VA_labelType_30 ?_
    refine lv_topi (fun x3 ex3 => ?_)
    rw [i32_natI (x := x2) (n := h0_depth.toInt - 1 - p0.toInt) (by (first | (apply Int.le_antisymm <;> omega) | omega))] at ex3
    have u30 : x3.toInt = (gbo (h0_depth.toInt - 1 - p0.toInt).toNat).toInt := by rw [ex3]
    refine lv_iconst (v := 3) hx hb d_VA_labelType_31 (by decide) ?_
    refine lv_icmp_ne (tgt := 40) hx hb d_VA_labelType_32 (by decide) (fun c32 => ?_) (fun c32 => ?_)
    · have q32 := neI c32
      refine lv_aload_n hx hb d_VA_labelType_40 rfl (lv_at hl 1 rfl) ?_
      refine va_get (D := (dC, dI)) (ci := 9) (v := .ref bg) (C := R_VA) (T := F_VA) (N := 11) hx hb hts i_VA hown hK hP 0 rfl rfl 7 (by decide) (hts _ kF_VA_18) (fun _ h9 => h9) rfl d_VA_labelType_41 ?_
      refine lv_iload_n hx hb d_VA_labelType_44 rfl (lv_at hl 0 rfl) ?_
      have g45 : vp_in x2 101 := vp_in_iff.mpr ⟨by (first | (apply Int.le_antisymm <;> omega) | omega), by (first | (apply Int.le_antisymm <;> omega) | omega)⟩
      refine va_iald hx hb hK hP 3 2 rfl rfl g45 d_VA_labelType_45 ?_
      refine lv_topi (fun x4 ex4 => ?_)
      rw [i32_natI (x := x2) (n := h0_depth.toInt - 1 - p0.toInt) (by (first | (apply Int.le_antisymm <;> omega) | omega))] at ex4
      have u45 : x4.toInt = (gbg (h0_depth.toInt - 1 - p0.toInt).toNat).toInt := by rw [ex4]
      have hP9 := hP.sb (wq := (wz_86 h0 aw ac h0_sound h0_function ty h0_height bo bg bh bd h0_depth ty cty gty bo cbo gbo bg cbg gbg bh cbh gbh bd cbd gbd)) [0, 1, 2, 3, 4, 5] rfl
      have hD9 := hD.sb (wq := (wz_86 h0 aw ac h0_sound h0_function ty h0_height bo bg bh bd h0_depth ty cty gty bo cbo gbo bg cbg gbg bh cbh gbh bd cbd gbd)) [0, 1, 2, 3, 4, 5] (by decide) rfl
      exact W.iret (v := x4) hx hb hr (fun t ht hW => ⟨⟨x4, h0_sound, rfl, ⟨b_h0_sound, lb_1 hv th0_sound (by (first | (apply Int.le_antisymm <;> omega) | omega)) (by (first | (apply Int.le_antisymm <;> omega) | omega)) (by (first | (apply Int.le_antisymm <;> omega) | omega))⟩, va_P.he ht.symm hP9, va_K.moved hW.alike hK, hD9⟩, hS.F ht⟩) hS.2.2 d_VA_labelType_46
    · have q32 := eqI c32
      refine lv_bipush (v := 64) hx hb d_VA_labelType_35 (by decide) ?_
      refine lv_goto (tgt := 46) hx hb d_VA_labelType_37 (by decide) ?_
      have hP9 := hP.sb (wq := (wz_86 h0 aw ac h0_sound h0_function ty h0_height bo bg bh bd h0_depth ty cty gty bo cbo gbo bg cbg gbg bh cbh gbh bd cbd gbd)) [0, 1, 2, 3, 4, 5] rfl
      have hD9 := hD.sb (wq := (wz_86 h0 aw ac h0_sound h0_function ty h0_height bo bg bh bd h0_depth ty cty gty bo cbo gbo bg cbg gbg bh cbh gbh bd cbd gbd)) [0, 1, 2, 3, 4, 5] (by decide) rfl
      exact W.iret (v := 64) hx hb hr (fun t ht hW => ⟨⟨64, h0_sound, rfl, ⟨b_h0_sound, lb_1 hv th0_sound (by (first | (apply Int.le_antisymm <;> omega) | omega)) (by (first | (apply Int.le_antisymm <;> omega) | omega)) (by (first | (apply Int.le_antisymm <;> omega) | omega))⟩, va_P.he ht.symm hP9, va_K.moved hW.alike hK, hD9⟩, hS.F ht⟩) hS.2.2 d_VA_labelType_46
  · have q5 := nltI c5
    refine lv_aload_n hx hb d_VA_labelType_8 rfl (lv_at hl 0 rfl) ?_
    refine lv_iconst (v := 0) hx hb d_VA_labelType_9 (by decide) ?_
    refine va_put (D := (dC, dI)) (ci := 9) (v := .int 0) (ty := .boolean) (C := R_VA) (T := F_VA) (N := 11) hx hb hts i_VA t_VA t_VA_ok n_VA hown hK hP hD hS 0 rfl rfl 2 (by decide) (hts _ kF_VA_39) (fun _ h9 => h9) rfl (by decide +kernel) rfl rfl (Nat.le_of_ble_eq_true rfl) d_VA_labelType_10 (fun H locs hP hD hS => ?_)
    refine lv_bipush (v := 64) hx hb d_VA_labelType_13 (by decide) ?_
    have hP9 := hP.sb (wq := (wz_86 h0 aw ac 0 h0_function ty h0_height bo bg bh bd h0_depth ty cty gty bo cbo gbo bg cbg gbg bh cbh gbh bd cbd gbd)) [0, 1, 2, 3, 4, 5] rfl
    have hD9 := hD.sb (wq := (wz_86 h0 aw ac 0 h0_function ty h0_height bo bg bh bd h0_depth ty cty gty bo cbo gbo bg cbg gbg bh cbh gbh bd cbd gbd)) [0, 1, 2, 3, 4, 5] (by decide) rfl
    exact W.iret (v := 64) hx hb hr (fun t ht hW => ⟨⟨64, 0, rfl, ⟨Or.inl rfl, lb_0 hv (by decide) (by (first | (apply Int.le_antisymm <;> omega) | omega))⟩, va_P.he ht.symm hP9, va_K.moved hW.alike hK, hD9⟩, hS.F ht⟩) hS.2.2 d_VA_labelType_15
end q_n44q20
section q_n44q21
/-! p5: the class: numbers, memory, select, variables, as the pure validator steps -/
def vsz (o : Option zSt) (s s2 h2 D2 : Int32) (ty bo bg bh bd : Nat → Int32) : Prop := ∃ (S2 : List Nat) (B2 : List zBl), (s2.toInt = 1 ∧ s.toInt = 1 ∧ o = some (S2, B2) ∧ vA S2 B2 h2 D2 ty bo bg bh bd) ∨ (s2.toInt = 0 ∧ (s.toInt = 1 → o = none))
def vnum (op : Nat) (S : List Nat) (B : List zBl) : Option zSt :=
  if op = 65 then some (127 :: S, B)
  else if op = 66 then some (126 :: S, B)
  else (match vpw (vin op) S B with
    | some S2 => (match (if vone op = true then some S2 else vpw (vin op) S2 B) with
      | some S3 => some (vout op :: S3, B)
      | none => none)
    | none => none)
def vmem (hm op al : Nat) (S : List Nat) (B : List zBl) : Option zSt :=
  if hm = 1 then
      (if op = 63 then some (127 :: S, B)
       else if op = 64 then (match vpw 127 S B with | some S2 => some (127 :: S2, B) | none => none)
       else if al ≤ val_ op then
        (if 54 ≤ op then (match vpw (if op = 55 then 126 else 127) S B with
            | some S2 => (match vpw 127 S2 B with | some S3 => some (S3, B) | none => none)
            | none => none)
         else (match vpw 127 S B with | some S2 => some ((if op = 41 then 126 else 127) :: S2, B) | none => none))
       else none)
     else none
def vsel (S : List Nat) (B : List zBl) : Option zSt := match vpw 127 S B with
    | some S2 => (match vpop S2 B with
      | some (x, S3) => (match vpop S3 B with
        | some (y, S4) => if x = y ∨ x = 0 ∨ y = 0 then some ((if x = 0 then y else x) :: S4, B) else none
        | none => none)
      | none => none)
    | none => none
/-- the type of a variable -/
def vtyp (G : List (Nat × Nat × Nat)) (lo : List Nat) (op v : Nat) : Option Nat := if op < 35 then lo[v]? else (match G[v]? with | some x => some x.1 | none => none)
def vvar (G : List (Nat × Nat × Nat)) (lo : List Nat) (op v : Nat) (S : List Nat) (B : List zBl) : Option zSt :=
  if op = 26 then (match vpop S B with | some (_, S2) => some (S2, B) | none => none)
  else if op = 27 then vsel S B
  else if op < 35 then (match lo[v]? with
    | some t => if op = 32 then some (t :: S, B) else (match vpw t S B with | some S2 => some (if op = 33 then S2 else t :: S2, B) | none => none)
    | none => none)
  else (match G[v]? with
    | some x => if op = 35 then some (x.1 :: S, B) else if x.2.1 = 1 then (match vpw x.1 S B with | some S2 => some (S2, B) | none => none) else none
    | none => none)
theorem vst_num {T : zTab} {lo : List Nat} {g : Nat} {i : Nat × Nat × List Nat} {S : List Nat} {B : List zBl} (h : 65 ≤ i.1) : vstep T lo g i S B = vnum i.1 S B := by
  unfold vstep
  rw [if_neg (by (first | (apply Int.le_antisymm <;> omega) | omega)), if_neg (by (first | (apply Int.le_antisymm <;> omega) | omega)), if_neg (by (first | (apply Int.le_antisymm <;> omega) | omega)), if_neg (by (first | (apply Int.le_antisymm <;> omega) | omega)), if_neg (by (first | (apply Int.le_antisymm <;> omega) | omega)), if_neg (by (first | (apply Int.le_antisymm <;> omega) | omega)), if_neg (by (first | (apply Int.le_antisymm <;> omega) | omega)), if_neg (by (first | (apply Int.le_antisymm <;> omega) | omega)), if_neg (by (first | (apply Int.le_antisymm <;> omega) | omega)), if_neg (by (first | (apply Int.le_antisymm <;> omega) | omega)), if_neg (by (first | (apply Int.le_antisymm <;> omega) | omega)), if_neg (by (first | (apply Int.le_antisymm <;> omega) | omega)), if_neg (by (first | (apply Int.le_antisymm <;> omega) | omega)), if_neg (by (first | (apply Int.le_antisymm <;> omega) | omega)), if_neg (by (first | (apply Int.le_antisymm <;> omega) | omega)), if_neg (by (first | (apply Int.le_antisymm <;> omega) | omega))]
  rfl
theorem vst_mem {T : zTab} {lo : List Nat} {g : Nat} {i : Nat × Nat × List Nat} {S : List Nat} {B : List zBl} (h : 37 ≤ i.1) (h2 : i.1 ≤ 64) : vstep T lo g i S B = vmem T.2.2.1.1 i.1 i.2.1 S B := by
  unfold vstep
  rw [if_neg (by (first | (apply Int.le_antisymm <;> omega) | omega)), if_neg (by (first | (apply Int.le_antisymm <;> omega) | omega)), if_neg (by (first | (apply Int.le_antisymm <;> omega) | omega)), if_neg (by (first | (apply Int.le_antisymm <;> omega) | omega)), if_neg (by (first | (apply Int.le_antisymm <;> omega) | omega)), if_neg (by (first | (apply Int.le_antisymm <;> omega) | omega)), if_neg (by (first | (apply Int.le_antisymm <;> omega) | omega)), if_neg (by (first | (apply Int.le_antisymm <;> omega) | omega)), if_neg (by (first | (apply Int.le_antisymm <;> omega) | omega)), if_neg (by (first | (apply Int.le_antisymm <;> omega) | omega)), if_neg (by (first | (apply Int.le_antisymm <;> omega) | omega)), if_neg (by (first | (apply Int.le_antisymm <;> omega) | omega)), if_neg (by (first | (apply Int.le_antisymm <;> omega) | omega)), if_neg (by (first | (apply Int.le_antisymm <;> omega) | omega)), if_neg (by (first | (apply Int.le_antisymm <;> omega) | omega)), if_pos (by (first | (apply Int.le_antisymm <;> omega) | omega))]
  rfl
theorem vst_var {T : zTab} {lo : List Nat} {g : Nat} {i : Nat × Nat × List Nat} {S : List Nat} {B : List zBl} (h : i.1 = 26 ∨ i.1 = 27 ∨ (32 ≤ i.1 ∧ i.1 ≤ 36)) : vstep T lo g i S B = vvar T.2.2.2.1 lo i.1 i.2.1 S B := by
  unfold vstep
  rw [if_neg (by (first | (apply Int.le_antisymm <;> omega) | omega)), if_neg (by (first | (apply Int.le_antisymm <;> omega) | omega)), if_neg (by (first | (apply Int.le_antisymm <;> omega) | omega)), if_neg (by (first | (apply Int.le_antisymm <;> omega) | omega)), if_neg (by (first | (apply Int.le_antisymm <;> omega) | omega)), if_neg (by (first | (apply Int.le_antisymm <;> omega) | omega)), if_neg (by (first | (apply Int.le_antisymm <;> omega) | omega)), if_neg (by (first | (apply Int.le_antisymm <;> omega) | omega)), if_neg (by (first | (apply Int.le_antisymm <;> omega) | omega)), if_neg (by (first | (apply Int.le_antisymm <;> omega) | omega)), if_neg (by (first | (apply Int.le_antisymm <;> omega) | omega))]
  unfold vvar
  by_cases q1 : i.1 = 26
  · rw [if_pos q1, if_pos q1]
    rfl
  · rw [if_neg q1, if_neg q1]
    by_cases q2 : i.1 = 27
    · rw [if_pos q2, if_pos q2]
      rfl
    · rw [if_neg q2, if_neg q2]
      by_cases q3 : i.1 < 35
      · rw [if_pos (show 32 ≤ i.1 ∧ i.1 ≤ 34 by (first | (apply Int.le_antisymm <;> omega) | omega)), if_pos q3]
        rfl
      · rw [if_neg (show ¬ (32 ≤ i.1 ∧ i.1 ≤ 34) by (first | (apply Int.le_antisymm <;> omega) | omega)), if_neg q3, if_pos (by (first | (apply Int.le_antisymm <;> omega) | omega))]
        rfl
theorem vone_i {b : Int} (h0 : 0 ≤ b) : vone b.toNat = true ↔ (b = 69 ∨ b = 80 ∨ (103 ≤ b ∧ b < 106) ∨ (121 ≤ b ∧ b < 124) ∨ 138 < b) := by
  unfold vone
  simp only [Bool.or_eq_true, Bool.and_eq_true, decide_eq_true_eq]
  (first | (apply Int.le_antisymm <;> omega) | omega)
theorem vps_n {t : Nat} {S : List Nat} (h : t ≠ 64) : vps t S = t :: S := if_neg h
section VX
variable {S S1 S2 S3 : List Nat} {B : List zBl} {s s0 s1 s2 s3 h h2 D D2 r op t u w : Int32} {ty bo bg bh bd : Nat → Int32}
theorem nu_c (ho : (op.toInt = 65 ∧ t.toInt = 127) ∨ (op.toInt = 66 ∧ t.toInt = 126)) (hs : s.toInt = 0 ∨ s.toInt = 1) (x : s.toInt = 1 → vA (vps t.toInt.toNat S) B h2 D ty bo bg bh bd) : vsz (vnum op.toInt.toNat S B) s s h2 D ty bo bg bh bd := by
  rcases hs with q | q
  · exact ⟨[], [], Or.inr ⟨q, fun z => absurd z (by (first | (apply Int.le_antisymm <;> omega) | omega))⟩⟩
  · refine ⟨vps t.toInt.toNat S, B, Or.inl ⟨q, q, ?_, x q⟩⟩
    unfold vnum
    rw [vps_n (by (first | (apply Int.le_antisymm <;> omega) | omega))]
    rcases ho with ⟨o1, o2⟩ | ⟨o1, o2⟩
    · rw [if_pos (by (first | (apply Int.le_antisymm <;> omega) | omega)), show t.toInt.toNat = 127 by (first | (apply Int.le_antisymm <;> omega) | omega)]
    · rw [if_neg (by (first | (apply Int.le_antisymm <;> omega) | omega)), if_pos (by (first | (apply Int.le_antisymm <;> omega) | omega)), show t.toInt.toNat = 126 by (first | (apply Int.le_antisymm <;> omega) | omega)]
theorem nu_1 (ho : op.toInt ≠ 65 ∧ op.toInt ≠ 66) (h0 : 0 ≤ op.toInt) (hone : vone op.toInt.toNat = true) (ht : t.toInt.toNat = vin op.toInt.toNat) (hu : u.toInt.toNat = vout op.toInt.toNat) (hu2 : u.toInt = 126 ∨ u.toInt = 127) (h1 : (s1.toInt = 1 ∧ s.toInt = 1 ∧ vpw t.toInt.toNat S B = some S1) ∨ (s1.toInt = 0 ∧ (s.toInt = 1 → vpw t.toInt.toNat S B = none))) (x : s1.toInt = 1 → vA (vps u.toInt.toNat S1) B h2 D ty bo bg bh bd) : vsz (vnum op.toInt.toNat S B) s s1 h2 D ty bo bg bh bd := by
  have e : vnum op.toInt.toNat S B = (match vpw t.toInt.toNat S B with | some S2 => some (u.toInt.toNat :: S2, B) | none => none) := by
    unfold vnum
    rw [if_neg (by (first | (apply Int.le_antisymm <;> omega) | omega)), if_neg (by (first | (apply Int.le_antisymm <;> omega) | omega)), ← ht, ← hu]
    cases vpw t.toInt.toNat S B with
    | none => rfl
    | some S2 =>
      dsimp only
      rw [if_pos hone]
  rcases h1 with ⟨a1, a2, a3⟩ | ⟨a1, a2⟩
  · rw [a3] at e
    have := x a1
    rw [vps_n (by (first | (apply Int.le_antisymm <;> omega) | omega))] at this
    exact ⟨u.toInt.toNat :: S1, B, Or.inl ⟨a1, a2, e, this⟩⟩
  · exact ⟨[], [], Or.inr ⟨a1, fun z => by rw [e, a2 z]⟩⟩
theorem nu_2 (ho : op.toInt ≠ 65 ∧ op.toInt ≠ 66) (h0 : 0 ≤ op.toInt) (hone : ¬ vone op.toInt.toNat = true) (ht : t.toInt.toNat = vin op.toInt.toNat) (hw : w.toInt.toNat = vin op.toInt.toNat) (hu : u.toInt.toNat = vout op.toInt.toNat) (hu2 : u.toInt = 126 ∨ u.toInt = 127) (h1 : (s1.toInt = 1 ∧ s.toInt = 1 ∧ vpw t.toInt.toNat S B = some S1) ∨ (s1.toInt = 0 ∧ (s.toInt = 1 → vpw t.toInt.toNat S B = none))) (hb2 : (s2.toInt = 1 ∧ s1.toInt = 1 ∧ vpw w.toInt.toNat S1 B = some S2) ∨ (s2.toInt = 0 ∧ (s1.toInt = 1 → vpw w.toInt.toNat S1 B = none))) (x : s2.toInt = 1 → vA (vps u.toInt.toNat S2) B h2 D ty bo bg bh bd) : vsz (vnum op.toInt.toNat S B) s s2 h2 D ty bo bg bh bd := by
  have e : vnum op.toInt.toNat S B = (match vpw t.toInt.toNat S B with | some S2 => (match vpw w.toInt.toNat S2 B with | some S3 => some (u.toInt.toNat :: S3, B) | none => none) | none => none) := by
    unfold vnum
    rw [if_neg (by (first | (apply Int.le_antisymm <;> omega) | omega)), if_neg (by (first | (apply Int.le_antisymm <;> omega) | omega)), ← hu, hw, ← ht]
    cases vpw t.toInt.toNat S B with
    | none => rfl
    | some S2 =>
      dsimp only
      rw [if_neg hone]
  rcases h1 with ⟨a1, a2, a3⟩ | ⟨a1, a2⟩
  · rw [a3] at e
    dsimp only at e
    rcases hb2 with ⟨b1, b2, b3⟩ | ⟨b1, b2⟩
    · rw [b3] at e
      have := x b1
      rw [vps_n (by (first | (apply Int.le_antisymm <;> omega) | omega))] at this
      exact ⟨u.toInt.toNat :: S2, B, Or.inl ⟨b1, a2, e, this⟩⟩
    · exact ⟨[], [], Or.inr ⟨b1, fun z => by rw [e, b2 a1]⟩⟩
  · refine ⟨[], [], Or.inr ⟨?_, fun z => by rw [e, a2 z]⟩⟩
    rcases hb2 with ⟨b1, b2, b3⟩ | ⟨b1, b2⟩
    · (first | (apply Int.le_antisymm <;> omega) | omega)
    · exact b1
/-- whether the memory may be used so -/
def vmc (s s0 hm op al : Int32) : Prop := (s0.toInt = 1 ∧ s.toInt = 1 ∧ hm.toInt = 1 ∧ (op.toInt = 63 ∨ op.toInt = 64 ∨ al.toInt ≤ (val_ op.toInt.toNat : Int))) ∨ (s0.toInt = 0 ∧ ¬ (s.toInt = 1 ∧ hm.toInt = 1 ∧ (op.toInt = 63 ∨ op.toInt = 64 ∨ al.toInt ≤ (val_ op.toInt.toNat : Int))))
theorem val_i {b : Int} (h0 : 0 ≤ b) : (val_ b.toNat : Int) = if b = 40 ∨ b = 54 then 2 else if b = 41 ∨ b = 55 then 3 else 0 := by
  unfold val_
  by_cases q1 : b = 40 ∨ b = 54
  · rw [if_pos q1, if_pos (by (first | (apply Int.le_antisymm <;> omega) | omega))]; rfl
  · rw [if_neg q1, if_neg (by (first | (apply Int.le_antisymm <;> omega) | omega))]
    by_cases q2 : b = 41 ∨ b = 55
    · rw [if_pos q2, if_pos (by (first | (apply Int.le_antisymm <;> omega) | omega))]; rfl
    · rw [if_neg q2, if_neg (by (first | (apply Int.le_antisymm <;> omega) | omega))]; rfl
theorem mm_n {hm al : Int32} (c : vmc s s0 hm op al) (hm1 : hm.toInt = 0 ∨ hm.toInt = 1) (hal : op.toInt = 63 ∨ op.toInt = 64 ∨ 0 ≤ al.toInt) (h0 : 0 ≤ op.toInt) (q : s0.toInt = 0) : s.toInt = 1 → vmem hm.toInt.toNat op.toInt.toNat al.toInt.toNat S B = none := by
  intro z
  unfold vmem
  rcases c with ⟨c1, c2⟩ | ⟨c1, c2⟩
  · (first | (apply Int.le_antisymm <;> omega) | omega)
  · by_cases e : hm.toInt = 1
    · rw [if_pos (by (first | (apply Int.le_antisymm <;> omega) | omega))]
      have hne : op.toInt ≠ 63 ∧ op.toInt ≠ 64 := by
        exact ⟨fun y => c2 ⟨z, e, Or.inl y⟩, fun y => c2 ⟨z, e, Or.inr (Or.inl y)⟩⟩
      have hl : ¬ al.toInt ≤ (val_ op.toInt.toNat : Int) := fun y => c2 ⟨z, e, Or.inr (Or.inr y)⟩
      rw [if_neg (by (first | (apply Int.le_antisymm <;> omega) | omega)), if_neg (by (first | (apply Int.le_antisymm <;> omega) | omega)), if_neg (by (first | (apply Int.le_antisymm <;> omega) | omega))]
    · rw [if_neg (by (first | (apply Int.le_antisymm <;> omega) | omega))]
/-- a load, or one page more -/
theorem mm_l {hm al : Int32} (c : vmc s s0 hm op al) (hm1 : hm.toInt = 0 ∨ hm.toInt = 1) (hal : op.toInt = 63 ∨ op.toInt = 64 ∨ 0 ≤ al.toInt) (ho : op.toInt = 40 ∨ op.toInt = 41 ∨ op.toInt = 44 ∨ op.toInt = 45 ∨ op.toInt = 64) (hu : (u.toInt = 126 ∧ op.toInt = 41) ∨ (u.toInt = 127 ∧ op.toInt ≠ 41)) (h1 : (s1.toInt = 1 ∧ s0.toInt = 1 ∧ vpw 127 S B = some S1) ∨ (s1.toInt = 0 ∧ (s0.toInt = 1 → vpw 127 S B = none))) (x : s1.toInt = 1 → vA (vps u.toInt.toNat S1) B h2 D ty bo bg bh bd) : vsz (vmem hm.toInt.toNat op.toInt.toNat al.toInt.toNat S B) s s1 h2 D ty bo bg bh bd := by
  have hsp : s0.toInt = 0 ∨ s0.toInt = 1 := by rcases c with ⟨c1, -⟩ | ⟨c1, -⟩ <;> (first | (apply Int.le_antisymm <;> omega) | omega)
  rcases hsp with q | q
  · refine ⟨[], [], Or.inr ⟨?_, mm_n c hm1 hal (by (first | (apply Int.le_antisymm <;> omega) | omega)) q⟩⟩
    rcases h1 with ⟨a1, a2, a3⟩ | ⟨a1, a2⟩ <;> (first | (apply Int.le_antisymm <;> omega) | omega)
  · obtain ⟨c1, c2, c3, c4⟩ : s0.toInt = 1 ∧ s.toInt = 1 ∧ hm.toInt = 1 ∧ (op.toInt = 63 ∨ op.toInt = 64 ∨ al.toInt ≤ (val_ op.toInt.toNat : Int)) := by
      rcases c with c | c
      · exact c
      · (first | (apply Int.le_antisymm <;> omega) | omega)
    have e : vmem hm.toInt.toNat op.toInt.toNat al.toInt.toNat S B = (match vpw 127 S B with | some S2 => some (u.toInt.toNat :: S2, B) | none => none) := by
      unfold vmem
      rw [if_pos (by (first | (apply Int.le_antisymm <;> omega) | omega)), if_neg (by (first | (apply Int.le_antisymm <;> omega) | omega))]
      by_cases q6 : op.toInt = 64
      · rw [if_pos (by (first | (apply Int.le_antisymm <;> omega) | omega)), show u.toInt.toNat = 127 by (first | (apply Int.le_antisymm <;> omega) | omega)]
      · have : al.toInt ≤ (val_ op.toInt.toNat : Int) := by (first | (apply Int.le_antisymm <;> omega) | omega)
        rw [if_neg (by (first | (apply Int.le_antisymm <;> omega) | omega)), if_pos (by (first | (apply Int.le_antisymm <;> omega) | omega)), if_neg (by (first | (apply Int.le_antisymm <;> omega) | omega))]
        by_cases q4 : op.toInt = 41
        · rw [if_pos (by (first | (apply Int.le_antisymm <;> omega) | omega)), show u.toInt.toNat = 126 by (first | (apply Int.le_antisymm <;> omega) | omega)]
        · rw [if_neg (by (first | (apply Int.le_antisymm <;> omega) | omega)), show u.toInt.toNat = 127 by (first | (apply Int.le_antisymm <;> omega) | omega)]
    rcases h1 with ⟨a1, a2, a3⟩ | ⟨a1, a2⟩
    · rw [a3] at e
      have := x a1
      rw [vps_n (by (first | (apply Int.le_antisymm <;> omega) | omega))] at this
      exact ⟨u.toInt.toNat :: S1, B, Or.inl ⟨a1, c2, e, this⟩⟩
    · exact ⟨[], [], Or.inr ⟨a1, fun z => by rw [e, a2 q]⟩⟩
theorem mm_z {hm al : Int32} (c : vmc s s0 hm op al) (hm1 : hm.toInt = 0 ∨ hm.toInt = 1) (hal : op.toInt = 63 ∨ op.toInt = 64 ∨ 0 ≤ al.toInt) (ho : op.toInt = 63) (hu : u.toInt = 127) (x : s0.toInt = 1 → vA (vps u.toInt.toNat S) B h2 D ty bo bg bh bd) : vsz (vmem hm.toInt.toNat op.toInt.toNat al.toInt.toNat S B) s s0 h2 D ty bo bg bh bd := by
  have hsp : s0.toInt = 0 ∨ s0.toInt = 1 := by rcases c with ⟨c1, -⟩ | ⟨c1, -⟩ <;> (first | (apply Int.le_antisymm <;> omega) | omega)
  rcases hsp with q | q
  · exact ⟨[], [], Or.inr ⟨q, mm_n c hm1 hal (by (first | (apply Int.le_antisymm <;> omega) | omega)) q⟩⟩
  · obtain ⟨c2, c3⟩ : s.toInt = 1 ∧ hm.toInt = 1 := by
      rcases c with c | c
      · exact ⟨c.2.1, c.2.2.1⟩
      · (first | (apply Int.le_antisymm <;> omega) | omega)
    have := x q
    rw [vps_n (by (first | (apply Int.le_antisymm <;> omega) | omega))] at this
    refine ⟨u.toInt.toNat :: S, B, Or.inl ⟨q, c2, ?_, this⟩⟩
    unfold vmem
    rw [if_pos (by (first | (apply Int.le_antisymm <;> omega) | omega)), if_pos (by (first | (apply Int.le_antisymm <;> omega) | omega)), show u.toInt.toNat = 127 by (first | (apply Int.le_antisymm <;> omega) | omega)]
theorem mm_s {hm al : Int32} (c : vmc s s0 hm op al) (hm1 : hm.toInt = 0 ∨ hm.toInt = 1) (hal : op.toInt = 63 ∨ op.toInt = 64 ∨ 0 ≤ al.toInt) (ho : op.toInt = 54 ∨ op.toInt = 55 ∨ op.toInt = 58) (hu : (u.toInt = 126 ∧ op.toInt = 55) ∨ (u.toInt = 127 ∧ op.toInt ≠ 55)) (h1 : (s1.toInt = 1 ∧ s0.toInt = 1 ∧ vpw u.toInt.toNat S B = some S1) ∨ (s1.toInt = 0 ∧ (s0.toInt = 1 → vpw u.toInt.toNat S B = none))) (hb2 : (s2.toInt = 1 ∧ s1.toInt = 1 ∧ vpw 127 S1 B = some S2) ∨ (s2.toInt = 0 ∧ (s1.toInt = 1 → vpw 127 S1 B = none))) (x : s2.toInt = 1 → vA S2 B h2 D ty bo bg bh bd) : vsz (vmem hm.toInt.toNat op.toInt.toNat al.toInt.toNat S B) s s2 h2 D ty bo bg bh bd := by
  have hsp : s0.toInt = 0 ∨ s0.toInt = 1 := by rcases c with ⟨c1, -⟩ | ⟨c1, -⟩ <;> (first | (apply Int.le_antisymm <;> omega) | omega)
  rcases hsp with q | q
  · refine ⟨[], [], Or.inr ⟨?_, mm_n c hm1 hal (by (first | (apply Int.le_antisymm <;> omega) | omega)) q⟩⟩
    rcases h1 with ⟨a1, a2, a3⟩ | ⟨a1, a2⟩
    · (first | (apply Int.le_antisymm <;> omega) | omega)
    · rcases hb2 with ⟨b1, b2, b3⟩ | ⟨b1, b2⟩ <;> (first | (apply Int.le_antisymm <;> omega) | omega)
  · obtain ⟨c1, c2, c3, c4⟩ : s0.toInt = 1 ∧ s.toInt = 1 ∧ hm.toInt = 1 ∧ (op.toInt = 63 ∨ op.toInt = 64 ∨ al.toInt ≤ (val_ op.toInt.toNat : Int)) := by
      rcases c with c | c
      · exact c
      · (first | (apply Int.le_antisymm <;> omega) | omega)
    have e : vmem hm.toInt.toNat op.toInt.toNat al.toInt.toNat S B = (match vpw u.toInt.toNat S B with | some S2 => (match vpw 127 S2 B with | some S3 => some (S3, B) | none => none) | none => none) := by
      unfold vmem
      have : al.toInt ≤ (val_ op.toInt.toNat : Int) := by (first | (apply Int.le_antisymm <;> omega) | omega)
      rw [if_pos (by (first | (apply Int.le_antisymm <;> omega) | omega)), if_neg (by (first | (apply Int.le_antisymm <;> omega) | omega)), if_neg (by (first | (apply Int.le_antisymm <;> omega) | omega)), if_pos (by (first | (apply Int.le_antisymm <;> omega) | omega)), if_pos (by (first | (apply Int.le_antisymm <;> omega) | omega))]
      by_cases q4 : op.toInt = 55
      · rw [if_pos (by (first | (apply Int.le_antisymm <;> omega) | omega)), show u.toInt.toNat = 126 by (first | (apply Int.le_antisymm <;> omega) | omega)]
      · rw [if_neg (by (first | (apply Int.le_antisymm <;> omega) | omega)), show u.toInt.toNat = 127 by (first | (apply Int.le_antisymm <;> omega) | omega)]
    rcases h1 with ⟨a1, a2, a3⟩ | ⟨a1, a2⟩
    · rw [a3] at e
      dsimp only at e
      rcases hb2 with ⟨b1, b2, b3⟩ | ⟨b1, b2⟩
      · rw [b3] at e
        exact ⟨S2, B, Or.inl ⟨b1, c2, e, x b1⟩⟩
      · exact ⟨[], [], Or.inr ⟨b1, fun z => by rw [e, b2 a1]⟩⟩
    · refine ⟨[], [], Or.inr ⟨?_, fun z => by rw [e, a2 q]⟩⟩
      rcases hb2 with ⟨b1, b2, b3⟩ | ⟨b1, b2⟩ <;> (first | (apply Int.le_antisymm <;> omega) | omega)
/-- select -/
theorem se_z {a b z9 : Int32} (h1 : (s1.toInt = 1 ∧ s.toInt = 1 ∧ vpw 127 S B = some S1) ∨ (s1.toInt = 0 ∧ (s.toInt = 1 → vpw 127 S B = none))) (hb2 : (s2.toInt = 1 ∧ s1.toInt = 1 ∧ 0 ≤ a.toInt ∧ vpop S1 B = some (a.toInt.toNat, S2)) ∨ (s2.toInt = 0 ∧ (s1.toInt = 1 → vpop S1 B = none))) (h3 : (s3.toInt = 1 ∧ s2.toInt = 1 ∧ 0 ≤ b.toInt ∧ vpop S2 B = some (b.toInt.toNat, S3)) ∨ (s3.toInt = 0 ∧ (s2.toInt = 1 → vpop S2 B = none))) (c : (s0.toInt = 1 ∧ s3.toInt = 1 ∧ (a.toInt = b.toInt ∨ a.toInt = 0 ∨ b.toInt = 0)) ∨ (s0.toInt = 0 ∧ ¬ (s3.toInt = 1 ∧ (a.toInt = b.toInt ∨ a.toInt = 0 ∨ b.toInt = 0)))) (hz : (a.toInt = 0 ∧ z9 = b) ∨ (a.toInt ≠ 0 ∧ z9 = a)) (h64 : z9.toInt ≠ 64) (x : s0.toInt = 1 → vA (vps z9.toInt.toNat S3) B h2 D ty bo bg bh bd) : vsz (vsel S B) s s0 h2 D ty bo bg bh bd := by
  unfold vsel
  rcases h1 with ⟨a1, a2, a3⟩ | ⟨a1, a2⟩
  · rw [a3]
    dsimp only
    rcases hb2 with ⟨b1, b2, b3, b4⟩ | ⟨b1, b2⟩
    · rw [b4]
      dsimp only
      rcases h3 with ⟨d1, d2, d3, d4⟩ | ⟨d1, d2⟩
      · rw [d4]
        dsimp only
        rcases c with ⟨c1, c2, c3⟩ | ⟨c1, c2⟩
        · have := x c1
          rw [vps_n (by rcases hz with ⟨q1, q2⟩ | ⟨q1, q2⟩ <;> (rw [q2] at h64 ⊢; (first | (apply Int.le_antisymm <;> omega) | omega)))] at this
          refine ⟨z9.toInt.toNat :: S3, B, Or.inl ⟨c1, a2, ?_, this⟩⟩
          rw [if_pos (by (first | (apply Int.le_antisymm <;> omega) | omega))]
          rcases hz with ⟨q1, q2⟩ | ⟨q1, q2⟩
          · rw [if_pos (by (first | (apply Int.le_antisymm <;> omega) | omega)), q2]
          · rw [if_neg (by (first | (apply Int.le_antisymm <;> omega) | omega)), q2]
        · exact ⟨[], [], Or.inr ⟨c1, fun _ => if_neg (by (first | (apply Int.le_antisymm <;> omega) | omega))⟩⟩
      · rw [d2 b1]
        exact ⟨[], [], Or.inr ⟨by (first | (apply Int.le_antisymm <;> omega) | omega), fun _ => rfl⟩⟩
    · rw [b2 a1]
      exact ⟨[], [], Or.inr ⟨by (first | (apply Int.le_antisymm <;> omega) | omega), fun _ => rfl⟩⟩
  · refine ⟨[], [], Or.inr ⟨by (first | (apply Int.le_antisymm <;> omega) | omega), fun z => ?_⟩⟩
    rw [a2 z]
/-- variables: t: the type as the class finds it -/
def vtz (o : Option Nat) (t : Int32) : Prop := (t.toInt = 0 ∧ o = none) ∨ (∃ k : Nat, o = some k ∧ t.toInt = (k : Int) ∧ (k = 127 ∨ k = 126))
variable {G : List (Nat × Nat × Nat)} {lo : List Nat} {v : Nat}
theorem vr_n (ho : 32 ≤ op.toInt ∧ op.toInt ≤ 36) (ht : vtz (vtyp G lo op.toInt.toNat v) t) (h : t.toInt = 0 ∨ (op.toInt = 36 ∧ ∀ x, G[v]? = some x → x.2.1 ≠ 1)) : vvar G lo op.toInt.toNat v S B = none := by
  unfold vvar
  rw [if_neg (by (first | (apply Int.le_antisymm <;> omega) | omega)), if_neg (by (first | (apply Int.le_antisymm <;> omega) | omega))]
  rcases h with h | ⟨h1, h2⟩
  · rcases ht with ⟨t1, t2⟩ | ⟨k, t1, t2, t3⟩
    · unfold vtyp at t2
      by_cases q : op.toInt.toNat < 35
      · rw [if_pos q] at t2 ⊢
        rw [t2]
      · rw [if_neg q] at t2 ⊢
        cases e : G[v]? with
        | none => rfl
        | some x => rw [e] at t2; cases t2
    · (first | (apply Int.le_antisymm <;> omega) | omega)
  · rw [if_neg (by (first | (apply Int.le_antisymm <;> omega) | omega))]
    cases e : G[v]? with
    | none => rfl
    | some x =>
      dsimp only
      rw [if_neg (by (first | (apply Int.le_antisymm <;> omega) | omega)), if_neg (h2 x e)]
/-- what vvar is where the type is t -/
theorem vr_e (ho : 32 ≤ op.toInt ∧ op.toInt ≤ 36) (ht : vtz (vtyp G lo op.toInt.toNat v) t) (h : t.toInt ≠ 0) (h6 : op.toInt = 36 → ∀ x, G[v]? = some x → x.2.1 = 1) : vvar G lo op.toInt.toNat v S B = (if op.toInt = 32 ∨ op.toInt = 35 then some (t.toInt.toNat :: S, B) else (match vpw t.toInt.toNat S B with | some S2 => some (if op.toInt = 34 then t.toInt.toNat :: S2 else S2, B) | none => none)) := by
  rcases ht with ⟨t1, t2⟩ | ⟨k, t1, t2, t3⟩
  · (first | (apply Int.le_antisymm <;> omega) | omega)
  · have ek : t.toInt.toNat = k := by (first | (apply Int.le_antisymm <;> omega) | omega)
    rw [ek]
    unfold vvar
    rw [if_neg (by (first | (apply Int.le_antisymm <;> omega) | omega)), if_neg (by (first | (apply Int.le_antisymm <;> omega) | omega))]
    unfold vtyp at t1
    by_cases q : op.toInt.toNat < 35
    · rw [if_pos q] at t1 ⊢
      rw [t1]
      dsimp only
      by_cases q2 : op.toInt = 32
      · rw [if_pos (by (first | (apply Int.le_antisymm <;> omega) | omega)), if_pos (Or.inl q2)]
      · rw [if_neg (by (first | (apply Int.le_antisymm <;> omega) | omega)), if_neg (by (first | (apply Int.le_antisymm <;> omega) | omega))]
        cases vpw k S B with
        | none => rfl
        | some S2 =>
          dsimp only
          by_cases q3 : op.toInt = 34
          · rw [if_neg (by (first | (apply Int.le_antisymm <;> omega) | omega)), if_pos q3]
          · rw [if_pos (by (first | (apply Int.le_antisymm <;> omega) | omega)), if_neg q3]
    · rw [if_neg q] at t1 ⊢
      cases e : G[v]? with
      | none => rw [e] at t1; cases t1
      | some x =>
        rw [e] at t1
        have ex : x.1 = k := Option.some.inj t1
        dsimp only
        by_cases q2 : op.toInt = 35
        · rw [if_pos (by (first | (apply Int.le_antisymm <;> omega) | omega)), if_pos (Or.inr q2), ex]
        · rw [if_neg (by (first | (apply Int.le_antisymm <;> omega) | omega)), if_pos (h6 (by (first | (apply Int.le_antisymm <;> omega) | omega)) x e), ex, if_neg (by (first | (apply Int.le_antisymm <;> omega) | omega))]
          cases vpw k S B with
          | none => rfl
          | some S2 =>
            dsimp only
            rw [if_neg (by (first | (apply Int.le_antisymm <;> omega) | omega))]
theorem vr_g (ho : op.toInt = 32 ∨ op.toInt = 35) (ht : vtz (vtyp G lo op.toInt.toNat v) t) (h : t.toInt ≠ 0) (hs : s.toInt = 0 ∨ s.toInt = 1) (x : s.toInt = 1 → vA (vps t.toInt.toNat S) B h2 D ty bo bg bh bd) : vsz (vvar G lo op.toInt.toNat v S B) s s h2 D ty bo bg bh bd := by
  rcases hs with q | q
  · exact ⟨[], [], Or.inr ⟨q, fun z => absurd z (by (first | (apply Int.le_antisymm <;> omega) | omega))⟩⟩
  · have h64 : t.toInt ≠ 64 ∧ 0 ≤ t.toInt := by
      rcases ht with ⟨t1, t2⟩ | ⟨k, t1, t2, t3⟩ <;> (first | (apply Int.le_antisymm <;> omega) | omega)
    have := x q
    rw [vps_n (by (first | (apply Int.le_antisymm <;> omega) | omega))] at this
    exact ⟨t.toInt.toNat :: S, B, Or.inl ⟨q, q, by rw [vr_e (by (first | (apply Int.le_antisymm <;> omega) | omega)) ht h (fun z => absurd z (by (first | (apply Int.le_antisymm <;> omega) | omega))), if_pos ho], this⟩⟩
theorem vr_p (ho : op.toInt = 33 ∨ op.toInt = 36) (ht : vtz (vtyp G lo op.toInt.toNat v) t) (h : t.toInt ≠ 0) (h6 : op.toInt = 36 → ∀ x, G[v]? = some x → x.2.1 = 1) (h1 : (s1.toInt = 1 ∧ s.toInt = 1 ∧ vpw t.toInt.toNat S B = some S1) ∨ (s1.toInt = 0 ∧ (s.toInt = 1 → vpw t.toInt.toNat S B = none))) (x : s1.toInt = 1 → vA S1 B h2 D ty bo bg bh bd) : vsz (vvar G lo op.toInt.toNat v S B) s s1 h2 D ty bo bg bh bd := by
  have e := vr_e (S := S) (B := B) (by (first | (apply Int.le_antisymm <;> omega) | omega)) ht h h6
  rw [if_neg (by (first | (apply Int.le_antisymm <;> omega) | omega))] at e
  rcases h1 with ⟨a1, a2, a3⟩ | ⟨a1, a2⟩
  · rw [a3] at e
    dsimp only at e
    rw [if_neg (by (first | (apply Int.le_antisymm <;> omega) | omega))] at e
    exact ⟨S1, B, Or.inl ⟨a1, a2, e, x a1⟩⟩
  · exact ⟨[], [], Or.inr ⟨a1, fun z => by rw [e, a2 z]⟩⟩
theorem vr_t (ho : op.toInt = 34) (ht : vtz (vtyp G lo op.toInt.toNat v) t) (h : t.toInt ≠ 0) (h1 : (s1.toInt = 1 ∧ s.toInt = 1 ∧ vpw t.toInt.toNat S B = some S1) ∨ (s1.toInt = 0 ∧ (s.toInt = 1 → vpw t.toInt.toNat S B = none))) (x : s1.toInt = 1 → vA (vps t.toInt.toNat S1) B h2 D ty bo bg bh bd) : vsz (vvar G lo op.toInt.toNat v S B) s s1 h2 D ty bo bg bh bd := by
  have h64 : t.toInt ≠ 64 ∧ 0 ≤ t.toInt := by
    rcases ht with ⟨t1, t2⟩ | ⟨k, t1, t2, t3⟩ <;> (first | (apply Int.le_antisymm <;> omega) | omega)
  have e := vr_e (S := S) (B := B) (by (first | (apply Int.le_antisymm <;> omega) | omega)) ht h (fun z => absurd z (by (first | (apply Int.le_antisymm <;> omega) | omega)))
  rw [if_neg (by (first | (apply Int.le_antisymm <;> omega) | omega))] at e
  rcases h1 with ⟨a1, a2, a3⟩ | ⟨a1, a2⟩
  · rw [a3] at e
    dsimp only at e
    rw [if_pos ho] at e
    have := x a1
    rw [vps_n (by (first | (apply Int.le_antisymm <;> omega) | omega))] at this
    exact ⟨t.toInt.toNat :: S1, B, Or.inl ⟨a1, a2, e, this⟩⟩
  · exact ⟨[], [], Or.inr ⟨a1, fun z => by rw [e, a2 z]⟩⟩
theorem vr_d (ho : op.toInt = 26) (x : vpz S B s s2 h2 D r ty bo bg bh bd) : vsz (vvar G lo op.toInt.toNat v S B) s s2 h2 D ty bo bg bh bd := by
  unfold vvar
  rw [if_pos (by (first | (apply Int.le_antisymm <;> omega) | omega))]
  obtain ⟨S2, ⟨x1, x2, x3, x4, x5⟩ | ⟨x1, x2⟩⟩ := x
  · exact ⟨S2, B, Or.inl ⟨x1, x2, by rw [x4], x5⟩⟩
  · exact ⟨[], [], Or.inr ⟨x1, fun z => by rw [x2 z]⟩⟩
theorem vr_s (ho : op.toInt = 27) (x : vsz (vsel S B) s s2 h2 D ty bo bg bh bd) : vsz (vvar G lo op.toInt.toNat v S B) s s2 h2 D ty bo bg bh bd := by
  unfold vvar
  rw [if_neg (by (first | (apply Int.le_antisymm <;> omega) | omega)), if_pos (by (first | (apply Int.le_antisymm <;> omega) | omega))]
  exact x
end VX
/-- the locals of a function: tk parameters from p8 on, lk others from p60 on -/
def loA (tk lk p8 p60 : Int) (wap clt : Nat → Int32) (lo : List Nat) : Prop := (lo.length : Int) = tk + lk ∧ ∀ (n t : Nat), lo[n]? = some t → (t = 127 ∨ t = 126) ∧ ((n : Int) < tk → (wap (p8 + n).toNat).toInt = (t : Int)) ∧ (tk ≤ (n : Int) → (clt (p60 + n - tk).toNat).toInt = (t : Int))
theorem lo_t {tk lk p8 p60 : Int} {wap clt : Nat → Int32} {lo : List Nat} {G : List (Nat × Nat × Nat)} {op p r : Int32} (h : loA tk lk p8 p60 wap clt lo) (hop : op.toInt < 35) (ho0 : 0 ≤ op.toInt) (hp : 0 ≤ p.toInt) (hk : 0 ≤ tk) (hl : 0 ≤ lk) (x : (r.toInt = 0 ∧ (p.toInt < 0 ∨ tk + lk ≤ p.toInt)) ∨ (0 ≤ p.toInt ∧ p.toInt < tk ∧ r = wap (p8 + p.toInt).toNat) ∨ (tk ≤ p.toInt ∧ p.toInt < tk + lk ∧ r = clt (p60 + p.toInt - tk).toNat)) : vtz (vtyp G lo op.toInt.toNat p.toInt.toNat) r := by
  unfold vtyp
  rw [if_pos (by (first | (apply Int.le_antisymm <;> omega) | omega))]
  obtain ⟨h1, h2⟩ := h
  have ep : ((p.toInt.toNat : Nat) : Int) = p.toInt := Int.toNat_of_nonneg hp
  rcases x with ⟨x1, x2⟩ | ⟨x1, x2, x3⟩ | ⟨x1, x2, x3⟩
  · exact Or.inl ⟨x1, List.getElem?_eq_none (by (first | (apply Int.le_antisymm <;> omega) | omega))⟩
  · have q : p.toInt.toNat < lo.length := by (first | (apply Int.le_antisymm <;> omega) | omega)
    have e := List.getElem?_eq_getElem q
    obtain ⟨k1, k2, k3⟩ := h2 _ _ e
    have k4 := k2 (by (first | (apply Int.le_antisymm <;> omega) | omega))
    rw [ep, ← x3] at k4
    exact Or.inr ⟨_, e, k4, k1⟩
  · have q : p.toInt.toNat < lo.length := by (first | (apply Int.le_antisymm <;> omega) | omega)
    have e := List.getElem?_eq_getElem q
    obtain ⟨k1, k2, k3⟩ := h2 _ _ e
    have k4 := k3 (by (first | (apply Int.le_antisymm <;> omega) | omega))
    rw [ep, ← x3] at k4
    exact Or.inr ⟨_, e, k4, k1⟩
end q_n44q21

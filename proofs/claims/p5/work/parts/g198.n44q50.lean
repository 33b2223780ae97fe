/-! p5: the reference: its stack and blocks as lists (top first) -/
def en0 (t : Nat) : Int := if t = 0 then -1 else (t : Int)
def en4 (t : Nat) : Int := if t = 64 then 0 else (t : Int)
theorem en0_n {t : Nat} (h : t ≠ 0) : en0 t = (t : Int) := if_neg h
theorem en4_n {t : Nat} (h : t ≠ 64) : en4 t = (t : Int) := if_neg h
theorem en4_0 {t : Nat} : en4 t = 0 ↔ t = 64 ∨ t = 0 := by
  unfold en4
  by_cases q : t = 64
  · rw [if_pos q]
    exact ⟨fun _ => Or.inl q, fun _ => rfl⟩
  · rw [if_neg q]
    (first | (apply Int.le_antisymm <;> omega) | omega)
def stR (sk : Nat → Int32) : List Nat → Prop
  | [] => True
  | x :: S => (sk S.length).toInt = en0 x ∧ stR sk S
def blR (ki la ou hg lo : Nat → Int32) : List zBl → Prop
  | [] => True
  | b :: B => (((ki B.length).toInt = 4 ↔ b.1 = 4) ∧ (la B.length).toInt = en4 (if b.1 = 3 then 64 else b.2.1) ∧ (ou B.length).toInt = en4 b.2.1 ∧ (hg B.length).toInt = (b.2.2.1 : Int) ∧ (lo B.length).toInt = (if b.2.2.2 = true then 1 else 0) ∧ b.2.1 ≠ 0) ∧ blR ki la ou hg lo B
def vB (S : List Nat) (B : List zBl) (t D : Int32) (sk ki la ou hg lo : Nat → Int32) : Prop := (S.length : Int) = t.toInt ∧ (B.length : Int) = D.toInt ∧ stR sk S ∧ blR ki la ou hg lo B ∧ hgB B S.length
theorem stR_upd {sk : Nat → Int32} {k : Nat} {v : Int32} : ∀ {S : List Nat}, stR sk S → S.length ≤ k → stR (upd sk k v) S := by
  intro S
  induction S with
  | nil => intros; trivial
  | cons x S ih =>
    intro h hk
    rw [List.length_cons] at hk
    exact ⟨by rw [pk_un (show S.length ≠ k by (first | (apply Int.le_antisymm <;> omega) | omega))]; exact h.1, ih h.2 (by (first | (apply Int.le_antisymm <;> omega) | omega))⟩
theorem stR_drop {sk : Nat → Int32} : ∀ (n : Nat) {S : List Nat}, stR sk S → stR sk (S.drop n) := by
  intro n
  induction n with
  | zero => intro S h; exact h
  | succ n ih =>
    intro S h
    cases S with
    | nil => exact h
    | cons x S => exact ih h.2
theorem blR_upd {ki la ou hg lo : Nat → Int32} {k : Nat} {v1 v2 v3 v4 v5 : Int32} : ∀ {B : List zBl}, blR ki la ou hg lo B → B.length ≤ k → blR (upd ki k v1) (upd la k v2) (upd ou k v3) (upd hg k v4) (upd lo k v5) B := by
  intro B
  induction B with
  | nil => intros; trivial
  | cons b B ih =>
    intro h hk
    rw [List.length_cons] at hk
    have e : B.length ≠ k := by (first | (apply Int.le_antisymm <;> omega) | omega)
    refine ⟨?_, ih h.2 (by (first | (apply Int.le_antisymm <;> omega) | omega))⟩
    rw [pk_un e, pk_un e, pk_un e, pk_un e, pk_un e]
    exact h.1
theorem blR_d {ki la ou hg lo : Nat → Int32} {k : Nat} {v : Int32} : ∀ {B : List zBl}, blR ki la ou hg lo B → B.length ≤ k → blR ki la ou hg (upd lo k v) B := by
  intro B
  induction B with
  | nil => intros; trivial
  | cons b B ih =>
    intro h hk
    rw [List.length_cons] at hk
    refine ⟨?_, ih h.2 (by (first | (apply Int.le_antisymm <;> omega) | omega))⟩
    rw [pk_un (show B.length ≠ k by (first | (apply Int.le_antisymm <;> omega) | omega))]
    exact h.1
theorem blR_kd {ki la ou hg lo : Nat → Int32} {k : Nat} {v w : Int32} : ∀ {B : List zBl}, blR ki la ou hg lo B → B.length ≤ k → blR (upd ki k w) la ou hg (upd lo k v) B := by
  intro B
  induction B with
  | nil => intros; trivial
  | cons b B ih =>
    intro h hk
    rw [List.length_cons] at hk
    refine ⟨?_, ih h.2 (by (first | (apply Int.le_antisymm <;> omega) | omega))⟩
    rw [pk_un (show B.length ≠ k by (first | (apply Int.le_antisymm <;> omega) | omega)), pk_un (show B.length ≠ k by (first | (apply Int.le_antisymm <;> omega) | omega))]
    exact h.1
theorem blR_get {ki la ou hg lo : Nat → Int32} : ∀ {B : List zBl} {n : Nat} {b : zBl}, blR ki la ou hg lo B → B[n]? = some b → (la (B.length - 1 - n)).toInt = en4 (if b.1 = 3 then 64 else b.2.1) ∧ (ou (B.length - 1 - n)).toInt = en4 b.2.1 ∧ b.2.1 ≠ 0 := by
  intro B
  induction B with
  | nil => intro n b _ h; cases h
  | cons x B ih =>
    intro n b h hn
    cases n with
    | zero =>
      have e : x = b := Option.some.inj hn
      subst e
      rw [show (x :: B).length - 1 - 0 = B.length from rfl]
      exact ⟨h.1.2.1, h.1.2.2.1, h.1.2.2.2.2.2⟩
    | succ n =>
      have e : B[n]? = some b := hn
      have h2 := (List.getElem?_eq_some_iff.mp e).1
      rw [show (x :: B).length - 1 - (n + 1) = B.length - 1 - n by rw [List.length_cons]; (first | (apply Int.le_antisymm <;> omega) | omega)]
      exact ih h.2 e
section VR
variable {S : List Nat} {B : List zBl} {t t2 D D2 r w : Int32} {sk ki la ou hg lo : Nat → Int32}
/-- the innermost block -/
theorem vB_top (hv : vB S B t D sk ki la ou hg lo) (hD : 1 ≤ D.toInt) : ∃ (b : zBl) (R : List zBl), B = b :: R ∧ (R.length : Int) = D.toInt - 1 ∧ ((ki (D.toInt - 1).toNat).toInt = 4 ↔ b.1 = 4) ∧ (ou (D.toInt - 1).toNat).toInt = en4 b.2.1 ∧ (hg (D.toInt - 1).toNat).toInt = (b.2.2.1 : Int) ∧ (lo (D.toInt - 1).toNat).toInt = (if b.2.2.2 = true then 1 else 0) ∧ b.2.2.1 ≤ S.length ∧ (S.length : Int) = t.toInt ∧ b.2.1 ≠ 0 := by
  obtain ⟨v1, v2, v3, v4, v5⟩ := hv
  cases B with
  | nil => rw [List.length_nil] at v2; (first | (apply Int.le_antisymm <;> omega) | omega)
  | cons b R =>
    rw [List.length_cons] at v2
    have e : (D.toInt - 1).toNat = R.length := by (first | (apply Int.le_antisymm <;> omega) | omega)
    rw [e]
    exact ⟨b, R, rfl, by (first | (apply Int.le_antisymm <;> omega) | omega), v4.1.1, v4.1.2.2.1, v4.1.2.2.2.1, v4.1.2.2.2.2.1, v5.1, v1, v4.1.2.2.2.2.2⟩
theorem vB_ht (hv : vB S B t D sk ki la ou hg lo) (hD : 1 ≤ D.toInt) : (hg (D.toInt - 1).toNat).toInt ≤ t.toInt := by
  obtain ⟨b, R, e0, e1, e2, e3, e4, e5, e6, e7, e8⟩ := vB_top hv hD
  (first | (apply Int.le_antisymm <;> omega) | omega)
theorem vpop_u {b : zBl} {R : List zBl} (h : ¬ b.2.2.1 < S.length) : vpop S (b :: R) = if b.2.2.2 = true then some (0, S) else none := by
  unfold vpop
  dsimp only
  rw [if_neg h]
theorem vpop_s {b : zBl} {R : List zBl} {x : Nat} {S2 : List Nat} (h : b.2.2.1 < (x :: S2).length) : vpop (x :: S2) (b :: R) = some (x, S2) := by
  unfold vpop
  dsimp only
  rw [if_pos h]
  rfl
theorem vpw_n {n : Nat} (h : n ≠ 64) : vpw n S B = (match vpop S B with | some (t, S2) => if t = n ∨ t = 0 then some S2 else none | none => none) := by
  unfold vpw
  rw [if_neg h] <;> rfl
/-- pop gives: n wanted (0: any) -/
def pR (S : List Nat) (B : List zBl) (n : Int) (o : Option (Nat × List Nat)) : Prop := (n = 0 → vpop S B = o) ∧ (0 < n → n ≠ 64 → vpw n.toNat S B = (match o with | some (_, S2) => some S2 | none => none))
theorem pR_u0 (hv : vB S B t D sk ki la ou hg lo) (hD : 1 ≤ D.toInt) (ht : t.toInt = (hg (D.toInt - 1).toNat).toInt) (hl : (lo (D.toInt - 1).toNat).toInt = 0) : pR S B w.toInt none := by
  obtain ⟨b, R, rfl, e1, e2, e3, e4, e5, e6, e7, e8⟩ := vB_top hv hD
  have hd : ¬ b.2.2.2 = true := fun z => by rw [if_pos z] at e5; (first | (apply Int.le_antisymm <;> omega) | omega)
  have hp : vpop S (b :: R) = none := by rw [vpop_u (by (first | (apply Int.le_antisymm <;> omega) | omega)), if_neg hd]
  exact ⟨fun _ => hp, fun _ h => by rw [vpw_n (by (first | (apply Int.le_antisymm <;> omega) | omega)), hp]⟩
theorem pR_u1 (hv : vB S B t D sk ki la ou hg lo) (hD : 1 ≤ D.toInt) (ht : t.toInt = (hg (D.toInt - 1).toNat).toInt) (hl : (lo (D.toInt - 1).toNat).toInt = 1) : pR S B w.toInt (some (0, S)) := by
  obtain ⟨b, R, rfl, e1, e2, e3, e4, e5, e6, e7, e8⟩ := vB_top hv hD
  have hd : b.2.2.2 = true := by
    by_cases z : b.2.2.2 = true
    · exact z
    · rw [if_neg z] at e5; (first | (apply Int.le_antisymm <;> omega) | omega)
  have hp : vpop S (b :: R) = some (0, S) := by rw [vpop_u (by (first | (apply Int.le_antisymm <;> omega) | omega)), if_pos hd]
  exact ⟨fun _ => hp, fun _ h => by rw [vpw_n (by (first | (apply Int.le_antisymm <;> omega) | omega)), hp]; dsimp only; rw [if_pos (Or.inr rfl)]⟩
theorem pR_s (hv : vB S B t D sk ki la ou hg lo) (hD : 1 ≤ D.toInt) (ht : t.toInt ≠ (hg (D.toInt - 1).toNat).toInt) (h2 : t2.toInt = t.toInt - 1) (h0 : 0 ≤ t2.toInt) (hr : r = sk t2.toNatClampNeg) : ∃ (x : Nat) (S2 : List Nat), S = x :: S2 ∧ r.toInt = en0 x ∧ vpop S B = some (x, S2) ∧ vB S2 B t2 D sk ki la ou hg lo := by
  have k2 := i32_clamp h0
  have hv9 := hv
  obtain ⟨b, R, rfl, e1, e2, e3, e4, e5, e6, e7, e8⟩ := vB_top hv hD
  obtain ⟨v1, v2, v3, v4, v5⟩ := hv9
  cases S with
  | nil => rw [List.length_nil] at v1 e6; (first | (apply Int.le_antisymm <;> omega) | omega)
  | cons x S2 =>
    rw [List.length_cons] at v1 e6
    refine ⟨x, S2, rfl, ?_, vpop_s (by rw [List.length_cons]; (first | (apply Int.le_antisymm <;> omega) | omega)), by (first | (apply Int.le_antisymm <;> omega) | omega), v2, v3.2, v4, ⟨by (first | (apply Int.le_antisymm <;> omega) | omega), v5.2⟩⟩
    rw [hr, show t2.toNatClampNeg = S2.length by (first | (apply Int.le_antisymm <;> omega) | omega)]
    exact v3.1
theorem pR_w {x : Nat} {S2 : List Nat} (h : vpop S B = some (x, S2)) (hr : r.toInt = en0 x) (hw : r.toInt = w.toInt ∨ w.toInt ≤ 0 ∨ r.toInt = -1) : pR S B w.toInt (some (x, S2)) := by
  refine ⟨fun _ => h, fun h1 h2 => ?_⟩
  rw [vpw_n (by (first | (apply Int.le_antisymm <;> omega) | omega)), h]
  dsimp only
  rw [if_pos]
  unfold en0 at hr
  by_cases q : x = 0
  · exact Or.inr q
  · rw [if_neg q] at hr
    left
    (first | (apply Int.le_antisymm <;> omega) | omega)
theorem pR_x {x : Nat} {S2 : List Nat} (h : vpop S B = some (x, S2)) (hr : r.toInt = en0 x) (hw : ¬ (r.toInt = w.toInt ∨ w.toInt ≤ 0 ∨ r.toInt = -1)) : pR S B w.toInt none := by
  refine ⟨fun z => absurd z (by (first | (apply Int.le_antisymm <;> omega) | omega)), fun h1 h2 => ?_⟩
  rw [vpw_n (by (first | (apply Int.le_antisymm <;> omega) | omega)), h]
  dsimp only
  rw [if_neg]
  unfold en0 at hr
  intro z
  rcases z with z | z
  · by_cases q : x = 0
    · rw [if_pos q] at hr; (first | (apply Int.le_antisymm <;> omega) | omega)
    · rw [if_neg q] at hr; (first | (apply Int.le_antisymm <;> omega) | omega)
  · rw [if_pos z] at hr; (first | (apply Int.le_antisymm <;> omega) | omega)
theorem pR_n {o : Option (Nat × List Nat)} {n : Nat} (h : pR S B w.toInt o) (hw : w.toInt = (n : Int)) (hn : n ≠ 0 ∧ n ≠ 64) : vpw n S B = (match (generalizing := false) o with | some (_, S2) => some S2 | none => none) := by
  have := h.2 (by (first | (apply Int.le_antisymm <;> omega) | omega)) (by (first | (apply Int.le_antisymm <;> omega) | omega))
  rw [show w.toInt.toNat = n by (first | (apply Int.le_antisymm <;> omega) | omega)] at this
  exact this
/-- push -/
theorem psR {n : Nat} (hv : vB S B t D sk ki la ou hg lo) (hw : w.toInt = en4 n) (hn : n ≠ 0) : (w.toInt = 0 → vB (vps n S) B t D sk ki la ou hg lo) ∧ (w.toInt ≠ 0 → t2.toInt = t.toInt + 1 → 0 ≤ t.toInt → vB (vps n S) B t2 D (upd sk t.toNatClampNeg w) ki la ou hg lo) := by
  refine ⟨fun z => ?_, fun z h1 h2 => ?_⟩
  · have q : n = 64 := by
      have := en4_0.mp (hw.symm.trans z)
      (first | (apply Int.le_antisymm <;> omega) | omega)
    unfold vps
    rw [if_pos q]
    exact hv
  · have q : n ≠ 64 := fun y => z (by rw [hw]; exact en4_0.mpr (Or.inl y))
    rw [en4_n q] at hw
    have k0 := i32_clamp h2
    obtain ⟨v1, v2, v3, v4, v5⟩ := hv
    unfold vps
    rw [if_neg q]
    have e : t.toNatClampNeg = S.length := by (first | (apply Int.le_antisymm <;> omega) | omega)
    refine ⟨by rw [List.length_cons]; (first | (apply Int.le_antisymm <;> omega) | omega), v2, ⟨?_, stR_upd v3 (by (first | (apply Int.le_antisymm <;> omega) | omega))⟩, v4, hgB_up v5 (by rw [List.length_cons]; (first | (apply Int.le_antisymm <;> omega) | omega))⟩
    rw [e, pk_us, en0_n hn]
    exact hw
theorem enR {k o : Nat} {p q u v : Int32} (hv : vB S B t D sk ki la ou hg lo) (hk : p.toInt = 4 ↔ k = 4) (hq : q.toInt = en4 (if k = 3 then 64 else o)) (hu : u.toInt = en4 o) (ho : o ≠ 0) (hz : v.toInt = 0) (hD : D2.toInt = D.toInt + 1) (h0 : 0 ≤ D.toInt) : vB S ((k, o, S.length, false) :: B) t D2 sk (upd ki D.toNatClampNeg p) (upd la D.toNatClampNeg q) (upd ou D.toNatClampNeg u) (upd hg D.toNatClampNeg t) (upd lo D.toNatClampNeg v) := by
  obtain ⟨v1, v2, v3, v4, v5⟩ := hv
  have k0 := i32_clamp h0
  have e : D.toNatClampNeg = B.length := by (first | (apply Int.le_antisymm <;> omega) | omega)
  refine ⟨v1, by rw [List.length_cons]; (first | (apply Int.le_antisymm <;> omega) | omega), v3, ⟨?_, blR_upd v4 (by (first | (apply Int.le_antisymm <;> omega) | omega))⟩, Nat.le_refl _, v5⟩
  rw [e, pk_us, pk_us, pk_us, pk_us, pk_us]
  refine ⟨hk, hq, hu, v1.symm, ?_, ho⟩
  rw [hz]
  rfl
theorem loR {v : Int32} (hv : vB S B t D sk ki la ou hg lo) (hD : 1 ≤ D.toInt) (hh : t2.toInt = (hg (D.toInt - 1).toNat).toInt) (hz : v.toInt = 1) : vB (vdie S B).1 (vdie S B).2 t2 D sk ki la ou hg (upd lo (D.toInt - 1).toNat v) ∧ t2.toInt ≤ t.toInt := by
  obtain ⟨v1, v2, v3, v4, v5⟩ := hv
  cases B with
  | nil => rw [List.length_nil] at v2; (first | (apply Int.le_antisymm <;> omega) | omega)
  | cons b B =>
    rw [List.length_cons] at v2
    have e1 : (D.toInt - 1).toNat = B.length := by (first | (apply Int.le_antisymm <;> omega) | omega)
    have e2 := v4.1.2.2.2.1
    rw [e1] at hh ⊢
    have e5 : b.2.2.1 ≤ S.length := v5.1
    refine ⟨⟨?_, by show ((B.length + 1 : Nat) : Int) = D.toInt; (first | (apply Int.le_antisymm <;> omega) | omega), stR_drop _ v3, ⟨?_, blR_d v4.2 (Nat.le_refl _)⟩, ?_, v5.2⟩, by (first | (apply Int.le_antisymm <;> omega) | omega)⟩
    · show ((S.drop (S.length - b.2.2.1)).length : Int) = t2.toInt
      rw [List.length_drop]
      (first | (apply Int.le_antisymm <;> omega) | omega)
    · rw [pk_us]
      refine ⟨v4.1.1, v4.1.2.1, v4.1.2.2.1, v4.1.2.2.2.1, ?_, v4.1.2.2.2.2.2⟩
      rw [hz]
      rfl
    · show b.2.2.1 ≤ (S.drop (S.length - b.2.2.1)).length
      rw [List.length_drop]
      (first | (apply Int.le_antisymm <;> omega) | omega)
theorem lbR {n : Nat} (hv : vB S B t D sk ki la ou hg lo) (hn : (n : Int) < D.toInt) : ∃ k : Nat, vlab B n = some k ∧ (la (D.toInt - 1 - n).toNat).toInt = en4 k ∧ k ≠ 0 := by
  obtain ⟨v1, v2, v3, v4, v5⟩ := hv
  have hl : n < B.length := by (first | (apply Int.le_antisymm <;> omega) | omega)
  have e := List.getElem?_eq_getElem hl
  have g1 := (blR_get v4 e).1
  have g3 := (blR_get v4 e).2.2
  rw [show B.length - 1 - n = (D.toInt - 1 - n).toNat by (first | (apply Int.le_antisymm <;> omega) | omega)] at g1
  refine ⟨_, ?_, g1, ?_⟩
  · unfold vlab
    rw [e]
  · split
    · decide
    · exact g3
theorem lbR_n {n : Nat} (hv : vB S B t D sk ki la ou hg lo) (hn : D.toInt ≤ (n : Int)) : vlab B n = none := by
  have v2 := hv.2.1
  unfold vlab
  rw [List.getElem?_eq_none (by (first | (apply Int.le_antisymm <;> omega) | omega))]
end VR

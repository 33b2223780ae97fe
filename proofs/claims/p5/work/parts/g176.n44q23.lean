/-! p5: the class: calls, labels, jumps, blocks, as the pure validator steps -/
def vcal (T : zTab) (f : Nat) (S : List Nat) (B : List zBl) : Option zSt := match T.2.1[f]? with
    | some t => (match T.1[t]? with
      | some ty => (match vpws ty.1 S B with | some S2 => some (vps ty.2 S2, B) | none => none)
      | none => none)
    | none => none
def vtab (ls : List Nat) (S : List Nat) (B : List zBl) : Option zSt := match vlab B (ls.getLastD 0) with
    | some t => if ls.all (fun n => vlab B n == some t) = true then (match vpw 127 S B with
        | some S2 => (match vpw t S2 B with | some S3 => some (vdie S3 B) | none => none)
        | none => none) else none
    | none => none
def vjmp (T : zTab) (g op v : Nat) (ls : List Nat) (S : List Nat) (B : List zBl) : Option zSt :=
  if op = 12 then (match vlab B v with
    | some t => (match vpw t S B with | some S2 => some (vdie S2 B) | none => none)
    | none => none)
  else if op = 13 then (match vlab B v with
    | some t => (match vpw 127 S B with
      | some S2 => (match vpw t S2 B with | some S3 => some (vps t S3, B) | none => none)
      | none => none)
    | none => none)
  else if op = 14 then vtab ls S B
  else if op = 15 then (match vpw g S B with | some S2 => some (vdie S2 B) | none => none)
  else vcal T v S B
def vblk (op v : Nat) (S : List Nat) (B : List zBl) : Option zSt :=
  if op = 0 then some (vdie S B)
  else if op = 1 then some (S, B)
  else if op = 2 ∨ op = 3 then some (S, (op, v, S.length, false) :: B)
  else if op = 4 then (match vpw 127 S B with | some S2 => some (S2, (4, v, S2.length, false) :: B) | none => none)
  else if op = 5 then (match vclose S B with | some (S2, b, r) => some (S2, (5, b.2.1, S2.length, false) :: r) | none => none)
  else (match vclose S B with
    | some (S2, b, r) => if b.1 ≠ 4 ∨ b.2.1 = 64 then some ((if r = [] then S2 else vps b.2.1 S2), r) else none
    | none => none)
theorem vst_blk {T : zTab} {lo : List Nat} {g : Nat} {i : Nat × Nat × List Nat} {S : List Nat} {B : List zBl} (h : i.1 ≤ 5 ∨ i.1 = 11) : vstep T lo g i S B = vblk i.1 i.2.1 S B := by
  unfold vstep vblk
  by_cases q0 : i.1 = 0
  · rw [if_pos q0, if_pos q0]
  rw [if_neg q0, if_neg q0]
  by_cases q1 : i.1 = 1
  · rw [if_pos q1, if_pos q1]
  rw [if_neg q1, if_neg q1]
  by_cases q2 : i.1 = 2 ∨ i.1 = 3
  · rw [if_pos q2, if_pos q2]
  rw [if_neg q2, if_neg q2]
  by_cases q4 : i.1 = 4
  · rw [if_pos q4, if_pos q4]
    all_goals rfl
  rw [if_neg q4, if_neg q4]
  by_cases q5 : i.1 = 5
  · rw [if_pos q5, if_pos q5]
    all_goals rfl
  rw [if_neg q5, if_neg q5, if_pos (by (first | (apply Int.le_antisymm <;> omega) | omega))]
  all_goals rfl
theorem vst_jmp {T : zTab} {lo : List Nat} {g : Nat} {i : Nat × Nat × List Nat} {S : List Nat} {B : List zBl} (h : 12 ≤ i.1) (h2 : i.1 ≤ 16) : vstep T lo g i S B = vjmp T g i.1 i.2.1 i.2.2 S B := by
  unfold vstep vjmp
  rw [if_neg (by (first | (apply Int.le_antisymm <;> omega) | omega)), if_neg (by (first | (apply Int.le_antisymm <;> omega) | omega)), if_neg (by (first | (apply Int.le_antisymm <;> omega) | omega)), if_neg (by (first | (apply Int.le_antisymm <;> omega) | omega)), if_neg (by (first | (apply Int.le_antisymm <;> omega) | omega)), if_neg (by (first | (apply Int.le_antisymm <;> omega) | omega))]
  by_cases q1 : i.1 = 12
  · rw [if_pos q1, if_pos q1]
    all_goals rfl
  rw [if_neg q1, if_neg q1]
  by_cases q2 : i.1 = 13
  · rw [if_pos q2, if_pos q2]
    all_goals rfl
  rw [if_neg q2, if_neg q2]
  by_cases q3 : i.1 = 14
  · rw [if_pos q3, if_pos q3]
    all_goals rfl
  rw [if_neg q3, if_neg q3]
  by_cases q4 : i.1 = 15
  · rw [if_pos q4, if_pos q4]
    all_goals rfl
  rw [if_neg q4, if_neg q4, if_pos (by (first | (apply Int.le_antisymm <;> omega) | omega))]
  all_goals rfl
/-- the functions of T as the tables have them -/
def fT (T : zTab) (fc : Int32) (waf wat wap wag : Nat → Int32) : Prop := fc.toInt = (T.2.1.length : Int) ∧ fnA waf T.2.1 ∧ tyA wat wap wag T.1 ∧ (∀ t ∈ T.2.1, t < T.1.length) ∧ T.1.length ≤ 20 ∧ T.2.1.length ≤ 30 ∧ (∀ x ∈ T.1, (∀ p ∈ x.1, p = 127 ∨ p = 126) ∧ (x.2 = 127 ∨ x.2 = 126 ∨ x.2 = 64))
theorem fT_get {T : zTab} {fc f : Int32} {waf wat wap wag : Nat → Int32} (h : fT T fc waf wat wap wag) (h0 : 0 ≤ f.toInt) (hf : f.toInt < fc.toInt) : ∃ (t : Nat) (ty : List Nat × Nat), T.2.1[f.toInt.toNat]? = some t ∧ T.1[t]? = some ty ∧ (waf f.toNatClampNeg).toInt = (t : Int) ∧ t < 20 ∧ (wat (waf f.toNatClampNeg).toNatClampNeg).toInt = (ty.1.length : Int) ∧ ty.1.length ≤ 8 ∧ (wag (waf f.toNatClampNeg).toNatClampNeg).toInt = (ty.2 : Int) ∧ (∀ (p y : Nat), ty.1[p]? = some y → (wap (8 * (waf f.toNatClampNeg).toInt + p).toNat).toInt = (y : Int)) ∧ (∀ p ∈ ty.1, p = 127 ∨ p = 126) ∧ (ty.2 = 127 ∨ ty.2 = 126 ∨ ty.2 = 64) := by
  obtain ⟨h1, h2, h3, h4, h5, h6, h7⟩ := h
  have kf := i32_clamp h0
  have q : f.toInt.toNat < T.2.1.length := by (first | (apply Int.le_antisymm <;> omega) | omega)
  have e := List.getElem?_eq_getElem q
  have e1 : (waf f.toNatClampNeg).toInt = ((T.2.1[f.toInt.toNat] : Nat) : Int) := by
    rw [show f.toNatClampNeg = f.toInt.toNat by (first | (apply Int.le_antisymm <;> omega) | omega)]
    exact h2 _ _ e
  have e2 := h4 _ (List.getElem_mem q)
  have e3 := List.getElem?_eq_getElem e2
  obtain ⟨g1, g2, g3, g4⟩ := h3 _ _ e3
  have kw := i32_clamp (x := waf f.toNatClampNeg) (by (first | (apply Int.le_antisymm <;> omega) | omega))
  have ew : (waf f.toNatClampNeg).toNatClampNeg = T.2.1[f.toInt.toNat] := by (first | (apply Int.le_antisymm <;> omega) | omega)
  obtain ⟨m1, m2⟩ := h7 _ (List.getElem_mem e2)
  refine ⟨_, _, e, e3, by (first | (apply Int.le_antisymm <;> omega) | omega), by (first | (apply Int.le_antisymm <;> omega) | omega), by rw [ew]; exact g1, g2, by rw [ew]; exact g3, fun p y hp => ?_, m1, m2⟩
  rw [show (8 * (waf f.toNatClampNeg).toInt + p).toNat = 8 * T.2.1[f.toInt.toNat] + p by (first | (apply Int.le_antisymm <;> omega) | omega)]
  exact g4 p y hp
section VZ
variable {S S1 S2 S3 : List Nat} {B : List zBl} {s s0 s1 s2 s3 h h2 D D2 r op t u w : Int32} {ty bo bg bh bd : Nat → Int32} {T : zTab} {f tn : Nat} {tp : List Nat × Nat}
/-- the parameters behind k are taken -/
def pwI (ps : List Nat) (S : List Nat) (B : List zBl) (s s2 : Int32) (k : Int) (S1 : List Nat) : Prop := (s2.toInt = 1 ∧ s.toInt = 1 ∧ vpws (ps.drop k.toNat) S B = some S1) ∨ (s2.toInt = 0 ∧ (s.toInt = 1 → vpws (ps.drop k.toNat) S B = none))
theorem pwI_0 {ps : List Nat} {k : Int} (hs : s.toInt = 0 ∨ s.toInt = 1) (hk : k = (ps.length : Int)) : pwI ps S B s s k S := by
  have e : ps.drop k.toNat = [] := List.drop_of_length_le (by (first | (apply Int.le_antisymm <;> omega) | omega))
  rcases hs with q | q
  · exact Or.inr ⟨q, fun z => absurd z (by (first | (apply Int.le_antisymm <;> omega) | omega))⟩
  · exact Or.inl ⟨q, q, by rw [e]; rfl⟩
theorem pwI_s {ps : List Nat} {k : Int} {y : Nat} (h : pwI ps S B s s1 (k + 1) S1) (hk : 0 ≤ k) (hy : ps[k.toNat]? = some y) (h1 : (s2.toInt = 1 ∧ s1.toInt = 1 ∧ vpw y S1 B = some S2) ∨ (s2.toInt = 0 ∧ (s1.toInt = 1 → vpw y S1 B = none))) : pwI ps S B s s2 k S2 := by
  obtain ⟨q, rfl⟩ := List.getElem?_eq_some_iff.mp hy
  have e : vpws (ps.drop k.toNat) S B = (match vpws (ps.drop (k + 1).toNat) S B with | some S2 => vpw (ps[k.toNat]) S2 B | none => none) := by
    rw [List.drop_eq_getElem_cons q, show k.toNat + 1 = (k + 1).toNat by (first | (apply Int.le_antisymm <;> omega) | omega)]
    rfl
  rcases h with ⟨a1, a2, a3⟩ | ⟨a1, a2⟩
  · rw [a3] at e
    dsimp only at e
    rcases h1 with ⟨b1, b2, b3⟩ | ⟨b1, b2⟩
    · exact Or.inl ⟨b1, a2, by rw [e, b3]⟩
    · exact Or.inr ⟨b1, fun _ => by rw [e, b2 a1]⟩
  · refine Or.inr ⟨by (first | (apply Int.le_antisymm <;> omega) | omega), fun z => ?_⟩
    rw [e, a2 z]
theorem ca_n (hs2 : s2.toInt = 0) (hf : T.2.1.length ≤ f) : vsz (vcal T f S B) s s2 h D ty bo bg bh bd := by
  refine ⟨[], [], Or.inr ⟨hs2, fun _ => ?_⟩⟩
  unfold vcal
  rw [List.getElem?_eq_none hf]
theorem ca_z {k : Int} (e1 : T.2.1[f]? = some tn) (e2 : T.1[tn]? = some tp) (h1 : pwI tp.1 S B s s1 k S1) (hk : k = 0) (hg : u.toInt = (tp.2 : Int)) (x : s1.toInt = 1 → vA (vps u.toInt.toNat S1) B h2 D ty bo bg bh bd) : vsz (vcal T f S B) s s1 h2 D ty bo bg bh bd := by
  subst hk
  have e : vcal T f S B = (match vpws tp.1 S B with | some S2 => some (vps tp.2 S2, B) | none => none) := by
    unfold vcal
    rw [e1]
    dsimp only
    rw [e2]
  rcases h1 with ⟨a1, a2, a3⟩ | ⟨a1, a2⟩
  · rw [show tp.1.drop (0 : Int).toNat = tp.1 from rfl] at a3
    rw [a3] at e
    have := x a1
    rw [show u.toInt.toNat = tp.2 by (first | (apply Int.le_antisymm <;> omega) | omega)] at this
    exact ⟨_, B, Or.inl ⟨a1, a2, e, this⟩⟩
  · refine ⟨[], [], Or.inr ⟨a1, fun z => ?_⟩⟩
    have := a2 z
    rw [show tp.1.drop (0 : Int).toNat = tp.1 from rfl] at this
    rw [e, this]
/-- labels of a table: those before k are as the last -/
def tlI (ls : List Nat) (B : List zBl) (s s2 t : Int32) (k : Int) : Prop := (s2.toInt = 1 ∧ s.toInt = 1 ∧ 0 ≤ t.toInt ∧ vlab B (ls.getLastD 0) = some t.toInt.toNat ∧ ∀ (j y : Nat), (j : Int) < k → ls[j]? = some y → vlab B y = some t.toInt.toNat) ∨ (s2.toInt = 0 ∧ (s.toInt = 1 → ∀ S : List Nat, vtab ls S B = none))
theorem vtab_n {ls : List Nat} {j y : Nat} {k : Nat} (h : vlab B (ls.getLastD 0) = some k) (hj : ls[j]? = some y) (hy : vlab B y ≠ some k) : vtab ls S B = none := by
  unfold vtab
  rw [h]
  dsimp only
  rw [if_neg]
  intro z
  have := List.all_eq_true.mp z y (List.mem_of_getElem? hj)
  exact hy (eq_of_beq this)
theorem tl_0 {ls : List Nat} {l k : Int} (hl : (l.toNat) = ls.getLastD 0) (h1 : lbz B l.toNat s s2 t) (hk : k = 0) : tlI ls B s s2 t k := by
  rcases h1 with ⟨a1, a2, a3, a4⟩ | ⟨a1, a2⟩
  · exact Or.inl ⟨a1, a2, a3, by rw [← hl]; exact a4, fun j y hj => absurd hj (by (first | (apply Int.le_antisymm <;> omega) | omega))⟩
  · refine Or.inr ⟨a1, fun z S => ?_⟩
    unfold vtab
    rw [← hl, a2 z]
theorem tl_s {ls : List Nat} {l k : Int} {s4 o : Int32} (h : tlI ls B s s1 t k) (hk : 0 ≤ k) (hj : ls[k.toNat]? = some l.toNat) (h1 : lbz B l.toNat s1 s2 o) (c : (s4.toInt = 1 ∧ s2.toInt = 1 ∧ o.toInt = t.toInt) ∨ (s4.toInt = 0 ∧ ¬ (s2.toInt = 1 ∧ o.toInt = t.toInt))) : tlI ls B s s4 t (k + 1) := by
  rcases h with ⟨a1, a2, a3, a4, a5⟩ | ⟨a1, a2⟩
  · rcases h1 with ⟨b1, b2, b3, b4⟩ | ⟨b1, b2⟩
    · rcases c with ⟨c1, c2, c3⟩ | ⟨c1, c2⟩
      · refine Or.inl ⟨c1, a2, a3, a4, fun j y hjk hy => ?_⟩
        by_cases q : (j : Int) < k
        · exact a5 j y q hy
        · rw [show j = k.toNat by (first | (apply Int.le_antisymm <;> omega) | omega), hj] at hy
          cases hy
          rw [b4, c3]
      · refine Or.inr ⟨c1, fun _ S => vtab_n a4 hj ?_⟩
        rw [b4]
        intro z
        have := Option.some.inj z
        exact c2 ⟨b1, by (first | (apply Int.le_antisymm <;> omega) | omega)⟩
    · refine Or.inr ⟨by (first | (apply Int.le_antisymm <;> omega) | omega), fun _ S => vtab_n a4 hj ?_⟩
      rw [b2 a1]
      intro z
      cases z
  · refine Or.inr ⟨?_, a2⟩
    rcases h1 with ⟨b1, b2, b3, b4⟩ | ⟨b1, b2⟩ <;> (first | (apply Int.le_antisymm <;> omega) | omega)
theorem tl_z {ls : List Nat} {k : Int} (hl : ls ≠ []) (h : tlI ls B s s0 t k) (hk : k + 1 = (ls.length : Int)) (h1 : (s1.toInt = 1 ∧ s0.toInt = 1 ∧ vpw 127 S B = some S1) ∨ (s1.toInt = 0 ∧ (s0.toInt = 1 → vpw 127 S B = none))) (hb2 : (s2.toInt = 1 ∧ s1.toInt = 1 ∧ vpw t.toInt.toNat S1 B = some S2) ∨ (s2.toInt = 0 ∧ (s1.toInt = 1 → vpw t.toInt.toNat S1 B = none))) (x : s2.toInt = 1 → vA (vdie S2 B).1 (vdie S2 B).2 h2 D ty bo bg bh bd) : vsz (vtab ls S B) s s2 h2 D ty bo bg bh bd := by
  rcases h with ⟨a1, a2, a3, a4, a5⟩ | ⟨a1, a2⟩
  · have e : vtab ls S B = (match vpw 127 S B with | some S2 => (match vpw t.toInt.toNat S2 B with | some S3 => some (vdie S3 B) | none => none) | none => none) := by
      unfold vtab
      rw [a4]
      dsimp only
      rw [if_pos]
      refine List.all_eq_true.mpr (fun y hy => ?_)
      obtain ⟨j, hj⟩ := List.getElem?_of_mem hy
      have hjl := (List.getElem?_eq_some_iff.mp hj).1
      have ey : vlab B y = some t.toInt.toNat := by
        by_cases q : (j : Int) < k
        · exact a5 j y q hj
        · have e9 : ls.getLastD 0 = y := by
            rw [List.getLastD_eq_getLast?, List.getLast?_eq_getElem?, show ls.length - 1 = j by (first | (apply Int.le_antisymm <;> omega) | omega), hj]
            rfl
          rw [← e9]
          exact a4
      rw [ey]
      exact beq_self_eq_true _
    rcases h1 with ⟨b1, b2, b3⟩ | ⟨b1, b2⟩
    · rw [b3] at e
      dsimp only at e
      rcases hb2 with ⟨c1, c2, c3⟩ | ⟨c1, c2⟩
      · rw [c3] at e
        exact ⟨_, _, Or.inl ⟨c1, a2, e, x c1⟩⟩
      · exact ⟨[], [], Or.inr ⟨c1, fun _ => by rw [e, c2 b1]⟩⟩
    · refine ⟨[], [], Or.inr ⟨?_, fun _ => by rw [e, b2 a1]⟩⟩
      rcases hb2 with ⟨c1, c2, c3⟩ | ⟨c1, c2⟩ <;> (first | (apply Int.le_antisymm <;> omega) | omega)
  · refine ⟨[], [], Or.inr ⟨?_, fun z => a2 z S⟩⟩
    rcases h1 with ⟨b1, b2, b3⟩ | ⟨b1, b2⟩
    · (first | (apply Int.le_antisymm <;> omega) | omega)
    · rcases hb2 with ⟨c1, c2, c3⟩ | ⟨c1, c2⟩ <;> (first | (apply Int.le_antisymm <;> omega) | omega)
/-! jumps -/
variable {g v : Nat} {ls : List Nat}
theorem jm_b (ho : op.toInt = 12) (h1 : lbz B v s s1 t) (hb2 : (s2.toInt = 1 ∧ s1.toInt = 1 ∧ vpw t.toInt.toNat S B = some S2) ∨ (s2.toInt = 0 ∧ (s1.toInt = 1 → vpw t.toInt.toNat S B = none))) (x : s2.toInt = 1 → vA (vdie S2 B).1 (vdie S2 B).2 h2 D ty bo bg bh bd) : vsz (vjmp T g op.toInt.toNat v ls S B) s s2 h2 D ty bo bg bh bd := by
  unfold vjmp
  rw [if_pos (by (first | (apply Int.le_antisymm <;> omega) | omega))]
  rcases h1 with ⟨a1, a2, a3, a4⟩ | ⟨a1, a2⟩
  · rw [a4]
    dsimp only
    rcases hb2 with ⟨c1, c2, c3⟩ | ⟨c1, c2⟩
    · rw [c3]
      exact ⟨_, _, Or.inl ⟨c1, a2, rfl, x c1⟩⟩
    · exact ⟨[], [], Or.inr ⟨c1, fun _ => by rw [c2 a1]⟩⟩
  · refine ⟨[], [], Or.inr ⟨?_, fun z => by rw [a2 z]⟩⟩
    rcases hb2 with ⟨c1, c2, c3⟩ | ⟨c1, c2⟩ <;> (first | (apply Int.le_antisymm <;> omega) | omega)
theorem jm_i {t2 : Int32} {s4 : Int32} (ho : op.toInt = 13) (h1 : (s1.toInt = 1 ∧ s.toInt = 1 ∧ vpw 127 S B = some S1) ∨ (s1.toInt = 0 ∧ (s.toInt = 1 → vpw 127 S B = none))) (h2l : lbz B v s1 s2 t) (h3 : (s3.toInt = 1 ∧ s2.toInt = 1 ∧ vpw t.toInt.toNat S1 B = some S2) ∨ (s3.toInt = 0 ∧ (s2.toInt = 1 → vpw t.toInt.toNat S1 B = none))) (h4 : lbz B v s3 s4 t2) (x : s4.toInt = 1 → vA (vps t2.toInt.toNat S2) B h2 D ty bo bg bh bd) : vsz (vjmp T g op.toInt.toNat v ls S B) s s4 h2 D ty bo bg bh bd := by
  have hn : s3.toInt ≠ 1 → s4.toInt = 0 := by
    intro z
    rcases h4 with ⟨d1, d2, d3, d4⟩ | ⟨d1, d2⟩
    · (first | (apply Int.le_antisymm <;> omega) | omega)
    · exact d1
  have e : vjmp T g op.toInt.toNat v ls S B = (match vlab B v with
    | some t => (match vpw 127 S B with
      | some S2 => (match vpw t S2 B with | some S3 => some (vps t S3, B) | none => none)
      | none => none)
    | none => none) := by
    unfold vjmp
    rw [if_neg (by (first | (apply Int.le_antisymm <;> omega) | omega)), if_pos (by (first | (apply Int.le_antisymm <;> omega) | omega))]
  rcases h1 with ⟨a1, a2, a3⟩ | ⟨a1, a2⟩
  · rcases h2l with ⟨b1, b2, b3, b4⟩ | ⟨b1, b2⟩
    · rw [b4] at e
      dsimp only at e
      rw [a3] at e
      dsimp only at e
      rcases h3 with ⟨c1, c2, c3⟩ | ⟨c1, c2⟩
      · rw [c3] at e
        dsimp only at e
        rcases h4 with ⟨d1, d2, d3, d4⟩ | ⟨d1, d2⟩
        · rw [b4] at d4
          have et : t.toInt.toNat = t2.toInt.toNat := Option.some.inj d4
          rw [et] at e
          exact ⟨_, B, Or.inl ⟨d1, a2, e, x d1⟩⟩
        · have := d2 c1
          rw [b4] at this
          cases this
      · exact ⟨[], [], Or.inr ⟨hn (by (first | (apply Int.le_antisymm <;> omega) | omega)), fun _ => by rw [e, c2 b1]⟩⟩
    · refine ⟨[], [], Or.inr ⟨hn (by rcases h3 with ⟨c1, c2, c3⟩ | ⟨c1, c2⟩ <;> (first | (apply Int.le_antisymm <;> omega) | omega)), fun _ => by rw [e, b2 a1]⟩⟩
  · refine ⟨[], [], Or.inr ⟨hn (by rcases h2l with ⟨b1, b2, b3, b4⟩ | ⟨b1, b2⟩; ((first | (apply Int.le_antisymm <;> omega) | omega)); (rcases h3 with ⟨c1, c2, c3⟩ | ⟨c1, c2⟩ <;> (first | (apply Int.le_antisymm <;> omega) | omega))), fun z => ?_⟩⟩
    rw [e]
    cases vlab B v with
    | none => rfl
    | some k =>
      dsimp only
      rw [a2 z]
theorem jm_r (ho : op.toInt = 15) (hg : t.toInt = (g : Int)) (hb2 : (s2.toInt = 1 ∧ s.toInt = 1 ∧ vpw t.toInt.toNat S B = some S2) ∨ (s2.toInt = 0 ∧ (s.toInt = 1 → vpw t.toInt.toNat S B = none))) (x : s2.toInt = 1 → vA (vdie S2 B).1 (vdie S2 B).2 h2 D ty bo bg bh bd) : vsz (vjmp T g op.toInt.toNat v ls S B) s s2 h2 D ty bo bg bh bd := by
  unfold vjmp
  rw [if_neg (by (first | (apply Int.le_antisymm <;> omega) | omega)), if_neg (by (first | (apply Int.le_antisymm <;> omega) | omega)), if_neg (by (first | (apply Int.le_antisymm <;> omega) | omega)), if_pos (by (first | (apply Int.le_antisymm <;> omega) | omega))]
  rw [show t.toInt.toNat = g by (first | (apply Int.le_antisymm <;> omega) | omega)] at hb2
  rcases hb2 with ⟨c1, c2, c3⟩ | ⟨c1, c2⟩
  · rw [c3]
    exact ⟨_, _, Or.inl ⟨c1, c2, rfl, x c1⟩⟩
  · exact ⟨[], [], Or.inr ⟨c1, fun z => by rw [c2 z]⟩⟩
theorem jm_t (ho : op.toInt = 14) (x : vsz (vtab ls S B) s s2 h2 D ty bo bg bh bd) : vsz (vjmp T g op.toInt.toNat v ls S B) s s2 h2 D ty bo bg bh bd := by
  unfold vjmp
  rw [if_neg (by (first | (apply Int.le_antisymm <;> omega) | omega)), if_neg (by (first | (apply Int.le_antisymm <;> omega) | omega)), if_pos (by (first | (apply Int.le_antisymm <;> omega) | omega))]
  exact x
theorem jm_c (ho : op.toInt = 16) (x : vsz (vcal T v S B) s s2 h2 D ty bo bg bh bd) : vsz (vjmp T g op.toInt.toNat v ls S B) s s2 h2 D ty bo bg bh bd := by
  unfold vjmp
  rw [if_neg (by (first | (apply Int.le_antisymm <;> omega) | omega)), if_neg (by (first | (apply Int.le_antisymm <;> omega) | omega)), if_neg (by (first | (apply Int.le_antisymm <;> omega) | omega)), if_neg (by (first | (apply Int.le_antisymm <;> omega) | omega))]
  exact x
/-- blocks -/
theorem bk_0 (ho : op.toInt = 0) (hs : s.toInt = 0 ∨ s.toInt = 1) (x : s.toInt = 1 → vA (vdie S B).1 (vdie S B).2 h2 D ty bo bg bh bd) : vsz (vblk op.toInt.toNat v S B) s s h2 D ty bo bg bh bd := by
  rcases hs with q | q
  · exact ⟨[], [], Or.inr ⟨q, fun z => absurd z (by (first | (apply Int.le_antisymm <;> omega) | omega))⟩⟩
  · refine ⟨_, _, Or.inl ⟨q, q, ?_, x q⟩⟩
    unfold vblk
    rw [if_pos (by (first | (apply Int.le_antisymm <;> omega) | omega))]
theorem bk_1 (ho : op.toInt = 1) (hs : s.toInt = 0 ∨ s.toInt = 1) (x : s.toInt = 1 → vA S B h2 D ty bo bg bh bd) : vsz (vblk op.toInt.toNat v S B) s s h2 D ty bo bg bh bd := by
  rcases hs with q | q
  · exact ⟨[], [], Or.inr ⟨q, fun z => absurd z (by (first | (apply Int.le_antisymm <;> omega) | omega))⟩⟩
  · refine ⟨_, _, Or.inl ⟨q, q, ?_, x q⟩⟩
    unfold vblk
    rw [if_neg (by (first | (apply Int.le_antisymm <;> omega) | omega)), if_pos (by (first | (apply Int.le_antisymm <;> omega) | omega))]
theorem bk_2 (ho : op.toInt = 2 ∨ op.toInt = 3) (hs : s.toInt = 0 ∨ s.toInt = 1) (hw : w.toInt = (v : Int)) (x : s.toInt = 1 → vA S ((op.toInt.toNat, w.toInt.toNat, S.length, false) :: B) h2 D ty bo bg bh bd) : vsz (vblk op.toInt.toNat v S B) s s h2 D ty bo bg bh bd := by
  rcases hs with q | q
  · exact ⟨[], [], Or.inr ⟨q, fun z => absurd z (by (first | (apply Int.le_antisymm <;> omega) | omega))⟩⟩
  · refine ⟨_, _, Or.inl ⟨q, q, ?_, x q⟩⟩
    unfold vblk
    rw [if_neg (by (first | (apply Int.le_antisymm <;> omega) | omega)), if_neg (by (first | (apply Int.le_antisymm <;> omega) | omega)), if_pos (by (first | (apply Int.le_antisymm <;> omega) | omega)), show w.toInt.toNat = v by (first | (apply Int.le_antisymm <;> omega) | omega)]
theorem bk_4 (ho : op.toInt = 4) (hw : w.toInt = (v : Int)) (h1 : (s1.toInt = 1 ∧ s.toInt = 1 ∧ vpw 127 S B = some S1) ∨ (s1.toInt = 0 ∧ (s.toInt = 1 → vpw 127 S B = none))) (x : s1.toInt = 1 → vA S1 ((op.toInt.toNat, w.toInt.toNat, S1.length, false) :: B) h2 D ty bo bg bh bd) : vsz (vblk op.toInt.toNat v S B) s s1 h2 D ty bo bg bh bd := by
  have e : vblk op.toInt.toNat v S B = (match vpw 127 S B with | some S2 => some (S2, (op.toInt.toNat, w.toInt.toNat, S2.length, false) :: B) | none => none) := by
    unfold vblk
    rw [if_neg (by (first | (apply Int.le_antisymm <;> omega) | omega)), if_neg (by (first | (apply Int.le_antisymm <;> omega) | omega)), if_neg (by (first | (apply Int.le_antisymm <;> omega) | omega)), if_pos (by (first | (apply Int.le_antisymm <;> omega) | omega)), show op.toInt.toNat = 4 by (first | (apply Int.le_antisymm <;> omega) | omega), show w.toInt.toNat = v by (first | (apply Int.le_antisymm <;> omega) | omega)]
  rcases h1 with ⟨a1, a2, a3⟩ | ⟨a1, a2⟩
  · rw [a3] at e
    exact ⟨_, _, Or.inl ⟨a1, a2, e, x a1⟩⟩
  · exact ⟨[], [], Or.inr ⟨a1, fun z => by rw [e, a2 z]⟩⟩
theorem bk_5 {b : zBl} {rr : List zBl} (ho : op.toInt = 5) (hw : s1.toInt = 1 → w.toInt = (b.2.1 : Int)) (h1 : (s1.toInt = 1 ∧ s.toInt = 1 ∧ vclose S B = some (S1, b, rr) ∧ B = b :: rr) ∨ (s1.toInt = 0 ∧ (s.toInt = 1 → vclose S B = none))) (x : s1.toInt = 1 → vA S1 ((op.toInt.toNat, w.toInt.toNat, S1.length, false) :: rr) h2 D ty bo bg bh bd) : vsz (vblk op.toInt.toNat v S B) s s1 h2 D ty bo bg bh bd := by
  have e : vblk op.toInt.toNat v S B = (match vclose S B with | some (S2, b, r) => some (S2, (5, b.2.1, S2.length, false) :: r) | none => none) := by
    unfold vblk
    rw [if_neg (by (first | (apply Int.le_antisymm <;> omega) | omega)), if_neg (by (first | (apply Int.le_antisymm <;> omega) | omega)), if_neg (by (first | (apply Int.le_antisymm <;> omega) | omega)), if_neg (by (first | (apply Int.le_antisymm <;> omega) | omega)), if_pos (by (first | (apply Int.le_antisymm <;> omega) | omega))]
  rcases h1 with ⟨a1, a2, a3, a4⟩ | ⟨a1, a2⟩
  · rw [a3] at e
    dsimp only at e
    have ew := hw a1
    rw [show (5 : Nat) = op.toInt.toNat by (first | (apply Int.le_antisymm <;> omega) | omega), show b.2.1 = w.toInt.toNat by (first | (apply Int.le_antisymm <;> omega) | omega)] at e
    exact ⟨_, _, Or.inl ⟨a1, a2, e, x a1⟩⟩
  · exact ⟨[], [], Or.inr ⟨a1, fun z => by rw [e, a2 z]⟩⟩
theorem bk_e {b : zBl} {rr : List zBl} (ho : op.toInt = 11) (h1 : (s1.toInt = 1 ∧ s.toInt = 1 ∧ vclose S B = some (S1, b, rr) ∧ B = b :: rr) ∨ (s1.toInt = 0 ∧ (s.toInt = 1 → vclose S B = none))) (c : (s2.toInt = 1 ∧ s1.toInt = 1 ∧ (b.1 ≠ 4 ∨ b.2.1 = 64)) ∨ (s2.toInt = 0 ∧ ¬ (s1.toInt = 1 ∧ (b.1 ≠ 4 ∨ b.2.1 = 64)))) (x : s2.toInt = 1 → vA (if rr = [] then S1 else vps b.2.1 S1) rr h2 D ty bo bg bh bd) : vsz (vblk op.toInt.toNat v S B) s s2 h2 D ty bo bg bh bd := by
  have e : vblk op.toInt.toNat v S B = (match vclose S B with
    | some (S2, b, r) => if b.1 ≠ 4 ∨ b.2.1 = 64 then some ((if r = [] then S2 else vps b.2.1 S2), r) else none
    | none => none) := by
    unfold vblk
    rw [if_neg (by (first | (apply Int.le_antisymm <;> omega) | omega)), if_neg (by (first | (apply Int.le_antisymm <;> omega) | omega)), if_neg (by (first | (apply Int.le_antisymm <;> omega) | omega)), if_neg (by (first | (apply Int.le_antisymm <;> omega) | omega)), if_neg (by (first | (apply Int.le_antisymm <;> omega) | omega))]
  rcases h1 with ⟨a1, a2, a3, a4⟩ | ⟨a1, a2⟩
  · rw [a3] at e
    dsimp only at e
    rcases c with ⟨c1, c2, c3⟩ | ⟨c1, c2⟩
    · rw [if_pos c3] at e
      exact ⟨_, _, Or.inl ⟨c1, a2, e, x c1⟩⟩
    · rw [if_neg (fun z => c2 ⟨a1, z⟩)] at e
      exact ⟨[], [], Or.inr ⟨c1, fun _ => e⟩⟩
  · exact ⟨[], [], Or.inr ⟨by (first | (apply Int.le_antisymm <;> omega) | omega), fun z => by rw [e, a2 z]⟩⟩
/-- the block that was left stays readable -/
theorem cl_rd {b : zBl} {rr : List zBl} (hv : s.toInt = 1 → vA S B h D ty bo bg bh bd) (h1 : (s1.toInt = 1 ∧ s.toInt = 1 ∧ vclose S B = some (S1, b, rr) ∧ B = b :: rr) ∨ (s1.toInt = 0 ∧ (s.toInt = 1 → vclose S B = none))) (hx : s1.toInt = 1 → vA S1 rr h2 D2 ty bo bg bh bd) (hD : 0 ≤ D2.toInt) : s1.toInt = 1 → (bo D2.toNatClampNeg).toInt = (b.1 : Int) ∧ (bg D2.toNatClampNeg).toInt = (b.2.1 : Int) ∧ (rr.length : Int) = D2.toInt := by
  intro q
  have kd := i32_clamp hD
  rcases h1 with ⟨a1, a2, a3, a4⟩ | ⟨a1, a2⟩
  · subst a4
    have v4 := (hv a2).2.2.2.1
    have l := (hx q).2.1
    rw [show D2.toNatClampNeg = rr.length by (first | (apply Int.le_antisymm <;> omega) | omega)]
    exact ⟨v4.1.1, v4.1.2.1, l⟩
  · (first | (apply Int.le_antisymm <;> omega) | omega)
end VZ

/-! the reference: emission: what is made, and read again -/
theorem mdl_ap2 {g g2 : Nat → Int32} {n n2 : Int32} {X Y Z : List Nat} (h : mdl g n (X ++ Y)) (hb : bl g2 n2.toNatClampNeg = bl g n.toNatClampNeg ++ Z) (h2 : 0 ≤ n2.toInt) : mdl g2 n2 (X ++ (Y ++ Z)) := by
  have q := mdl_app h hb h2
  rw [List.append_assoc] at q
  exact q
theorem mdl_sec {g : Nat → Int32} {n : Int32} {A Y : List Nat} {k : Nat} (h : mdl g n ((A ++ [k]) ++ (leb 5 Y.length ++ Y))) : mdl g n (A ++ sec k Y) := by
  have e : (A ++ [k]) ++ (leb 5 Y.length ++ Y) = A ++ sec k Y := by unfold sec; rw [List.append_assoc]; rfl
  rw [← e]
  exact h
/-- what is to be read again -/
def em9 (gv tk : Nat → Int) (rs : Nat → Int32) (fc gc : Int) (qn : Nat) (W : List Nat) (A : List Nat) : Prop := ∃ (qct : Nat → List Nat) (qg : Bool) (qTs qtb : List Nat) (qto : Nat → Int32) (qG : List (Nat × Int)) (qX : List (List Nat × Nat × Nat)) (qcb : List Nat) (qI : Nat), W = A ++ rs9 qct qg 1 ∧ (qg = true ↔ qG ≠ []) ∧ (qG.length : Int) = gc ∧ tyI qto tk (qf9 rs) qn qTs ∧ (qct 1 = qTs.length :: qtb ∧ qTs.length ≤ 20 ∧ tB tk (qf9 rs) qTs qtb ∧ (∀ r ∈ qTs, tk r ≤ 8) ∧ (∀ r ∈ qTs, ty (qf9 rs r).toInt)) ∧ (qct 3 = qn :: tol qto qn ∧ qn ≤ 20 ∧ ∀ f, f < qn → 0 ≤ (qto f).toInt ∧ (qto f).toInt < 128) ∧ qct 5 = [1, 1, 1, 2] ∧ (qct 6 = qG.length :: gbl qG ∧ qG.length ≤ 20 ∧ ∀ x ∈ qG, gok x) ∧ (qct 7 = qX.length :: exb qX ∧ qX.length ≤ 40 ∧ ∀ x ∈ qX, eok x) ∧ (qct 10 = qn :: qcb ∧ qn ≤ 20 ∧ cFq (Qc gv tk (fun f => gg9 (rs f).toInt) fc gc) 0 qn qcb qI ∧ qI ≤ 5000)
def gl9 (ty : Nat → Int32) (vl : Nat → Int64) (k : Nat) : List (Nat × Int) := (List.range k).map (fun j => ((ty j).toInt.toNat, (vl j).toInt))
theorem gl9_s {ty : Nat → Int32} {vl : Nat → Int64} {k : Nat} : gl9 ty vl (k + 1) = gl9 ty vl k ++ [((ty k).toInt.toNat, (vl k).toInt)] := by
  unfold gl9
  rw [List.range_succ, List.map_append]
  rfl
theorem gl9_len {ty : Nat → Int32} {vl : Nat → Int64} {k : Nat} : (gl9 ty vl k).length = k := by unfold gl9; rw [List.length_map, List.length_range]
theorem gl9_ok {ty : Nat → Int32} {vl : Nat → Int64} {k : Nat} (h : ∀ j : Nat, j < k → t27 (ty j).toInt ∧ ((ty j).toInt = 127 → in32 (vl j))) : ∀ x ∈ gl9 ty vl k, gok x := by
  intro x hx
  unfold gl9 at hx
  obtain ⟨j, hj, e⟩ := List.mem_map.mp hx
  subst e
  obtain ⟨h1, h2⟩ := h j (List.mem_range.mp hj)
  unfold t27 at h1
  have lo := Int64.le_toInt (vl j)
  have hi := Int64.toInt_lt (vl j)
  rcases h1 with q | q
  · have := h2 q
    unfold in32 at this
    exact Or.inl ⟨by dsimp only; omega, this⟩
  · exact Or.inr ⟨by dsimp only; omega, by dsimp only; omega, by dsimp only; omega⟩

/-! what the validator takes of a function's tables -/
def vw_fun (gwaf gwat gwap gclk gclt : Nat → Int32) (f : Nat) : Prop :=
  (0 ≤ (gwaf f).toInt ∧ (gwaf f).toInt < 20) ∧ (0 ≤ (gwat (gwaf f).toNatClampNeg).toInt ∧ (gwat (gwaf f).toNatClampNeg).toInt ≤ 8 ∧ 0 ≤ (gclk f).toInt ∧ (gclk f).toInt ≤ 60) ∧
  (∀ j : Nat, (j : Int) < (gwat (gwaf f).toNatClampNeg).toInt → (gwap (8 * (gwaf f).toInt + j).toNat).toInt = 127 ∨ (gwap (8 * (gwaf f).toInt + j).toNat).toInt = 126) ∧
  (∀ j : Nat, 60 * (f : Int) ≤ (j : Int) → (j : Int) < 60 * (f : Int) + (gclk f).toInt → (gclt j).toInt = 127 ∨ (gclt j).toInt = 126)
theorem vw_loc {gwaf gwat gwap gclk gclt : Nat → Int32} {f : Nat} {p0 p1 r : Int32} (h : vw_fun gwaf gwat gwap gclk gclt f) (hp : p0.toInt = f)
    (x : (r.toInt = 0 ∧ (p1.toInt < 0 ∨ (gwat (gwaf p0.toNatClampNeg).toNatClampNeg).toInt + (gclk p0.toNatClampNeg).toInt ≤ p1.toInt)) ∨ (0 ≤ p1.toInt ∧ p1.toInt < (gwat (gwaf p0.toNatClampNeg).toNatClampNeg).toInt ∧ r = gwap (8 * (gwaf p0.toNatClampNeg).toInt + p1.toInt).toNat) ∨ ((gwat (gwaf p0.toNatClampNeg).toNatClampNeg).toInt ≤ p1.toInt ∧ p1.toInt < (gwat (gwaf p0.toNatClampNeg).toNatClampNeg).toInt + (gclk p0.toNatClampNeg).toInt ∧ r = gclt (60 * p0.toInt + p1.toInt - (gwat (gwaf p0.toNatClampNeg).toNatClampNeg).toInt).toNat)) :
    (r.toInt = 0 ∧ (p1.toInt < 0 ∨ (gwat (gwaf f).toNatClampNeg).toInt + (gclk f).toInt ≤ p1.toInt)) ∨ ((r.toInt = 127 ∨ r.toInt = 126) ∧ 0 ≤ p1.toInt ∧ p1.toInt < (gwat (gwaf f).toNatClampNeg).toInt + (gclk f).toInt) := by
  obtain ⟨⟨a1, a2⟩, ⟨b1, b2, b3, b4⟩, c1, c2⟩ := h
  rw [i32_nat hp] at x
  rcases x with ⟨x1, x2⟩ | ⟨x1, x2, x3⟩ | ⟨x1, x2, x3⟩
  · exact Or.inl ⟨x1, x2⟩
  · refine Or.inr ⟨?_, x1, by omega⟩
    have q := c1 p1.toInt.toNat (by omega)
    rw [show (8 * (gwaf f).toInt + (p1.toInt.toNat : Int)).toNat = (8 * (gwaf f).toInt + p1.toInt).toNat from by omega, ← x3] at q
    exact q
  · refine Or.inr ⟨?_, by omega, by omega⟩
    have q := c2 (60 * p0.toInt + p1.toInt - (gwat (gwaf f).toNatClampNeg).toInt).toNat (by omega) (by omega)
    rw [← x3] at q
    exact q

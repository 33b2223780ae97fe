/-! the reference: arrays of the pool are put -/
theorem up_b {f : Nat → va_E} {a b c1 : Nat} {v1 : List Value} {x : ClassId × vp_A} {e : va_E} (h : f b = .inr (c1, v1)) (h0 : f a = .inl x) : va_up f a e b = .inr (c1, v1) := by
  have z : b ≠ a := fun z => by
    subst z
    rw [h] at h0
    cases h0
  rw [va_up_ne _ _ z]
  exact h
theorem up_c {f : Nat → va_E} {a b : Nat} {c1 c2 : ClassId} {x1 x2 : vp_A} {e : va_E} (h : f b = .inl (c1, x1)) (h0 : f a = .inl (c2, x2)) (hc : c1 ≠ c2) : va_up f a e b = .inl (c1, x1) := by
  have z : b ≠ a := fun z => by
    subst z
    rw [h] at h0
    injection h0 with h0
    injection h0 with h0 _
    exact hc h0
  rw [va_up_ne _ _ z]
  exact h

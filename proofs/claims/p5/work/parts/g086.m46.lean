/-! bytes of a row -/
def brg (f : Nat → Int32) : Prop := ∀ j, -128 ≤ (f j).toInt ∧ (f j).toInt ≤ 127
theorem nar_r (x : Int32) : -128 ≤ (vp_nar .byte x).toInt ∧ (vp_nar .byte x).toInt ≤ 127 := by
  have e : vp_nar .byte x = x.toInt8.toInt32 := rfl
  rw [e, Int8.toInt_toInt32]
  have h1 := Int8.le_toInt x.toInt8
  have h2 := Int8.toInt_lt x.toInt8
  (first | (apply Int.le_antisymm <;> omega) | omega)
theorem brg_upd {f : Nat → Int32} {k : Nat} {x : Int32} (h : brg f) : brg (upd f k (vp_nar .byte x)) := by
  intro j
  by_cases q : j = k
  · rw [q, pk_us]; exact nar_r x
  · rw [pk_un q]; exact h j
/-- arguments that are told to be ints are cut to ints -/
theorem arm_of {fc gc : Int} {mpc mre mlc mgt : Nat → Int32} {mto : Nat → Int64} {M1 M2 : Nat → Nat → Int32} {lt : Nat → Nat → Int} {rt nl gv tk gt : Nat → Int} (H : vctx fc gc mpc mre mlc mgt mto M1 M2 lt rt nl gv tk gt) : ∀ f : Nat, (f : Int) < fc → ∀ k : Nat, (k : Int) < tk f → lt f k ≠ 126 → (M1 (mto f).toInt.toNat k).toInt = 127 := by
  intro f hf k hk hl
  obtain ⟨a, b⟩ := vx_p H hf hk
  (first | (apply Int.le_antisymm <;> omega) | omega)

/-! the reference: trees of statements, by what they are -/
section TSC
variable {L : List Nat} {f : Nat → va_E} {cpn cpb : ClassId} {N fc gc gg : Int} {gv tk : Nat → Int} {V : Nat → Int32 → Int → Nat → Prop} {T : Bool → Nat → Int → Nat → Prop} {il : Bool} {op cnt ix gl : Int32} {g : Nat → Option Nat} {c : Int} {b d a : Nat}
theorem tsc_18 (h : tsc N gc gg V T il op cnt ix gl g c b) (e : op.toInt = 18) : ∃ (cf : Nat → Nat) (kf : Nat → Int), (∀ i : Nat, (i : Int) < cnt.toInt → g i = some (cf i) ∧ 0 ≤ kf i ∧ T il (cf i) (kf i) b) ∧ ksum kf cnt.toInt.toNat ≤ c := by
  rcases h with ⟨q, h⟩ | ⟨q, h⟩ | ⟨q, h⟩ | ⟨q, h⟩ | ⟨q, h⟩ | ⟨q, h⟩ | ⟨q, h⟩
  · exact h
  · exfalso; clear h; omega
  · exfalso; clear h; omega
  · exfalso; clear h; omega
  · exfalso; clear h; omega
  · exfalso; clear h; omega
  · exfalso; clear h; omega
theorem tsc_10 (h : tsc N gc gg V T il op cnt ix gl g c b) (e : op.toInt = 10 ∨ op.toInt = 11) : 1 ≤ cnt.toInt ∧ (0 ≤ ix.toInt ∧ ix.toInt < 128) ∧ ((gl.toInt = 1 ∧ ix.toInt < gc) ∨ (gl.toInt = 0 ∧ ix.toInt < N)) ∧ ∃ (c0 : Nat) (t0 : Int32) (k0 : Int), g 0 = some c0 ∧ t27 t0.toInt ∧ V c0 t0 k0 b ∧ 0 ≤ k0 ∧ k0 + 10 ≤ c := by
  rcases h with ⟨q, h⟩ | ⟨q, h⟩ | ⟨q, h⟩ | ⟨q, h⟩ | ⟨q, h⟩ | ⟨q, h⟩ | ⟨q, h⟩
  · exfalso; clear h; omega
  · exact h
  · exfalso; clear h; omega
  · exfalso; clear h; omega
  · exfalso; clear h; omega
  · exfalso; clear h; omega
  · exfalso; clear h; omega
theorem tsc_12 (h : tsc N gc gg V T il op cnt ix gl g c b) (e : op.toInt = 12) : 2 ≤ cnt.toInt ∧ ∃ (c0 : Nat) (t0 : Int32) (k0 : Int) (c1 : Nat) (k1 : Int) (b1 : Nat), g 0 = some c0 ∧ t27 t0.toInt ∧ V c0 t0 k0 b ∧ 0 ≤ k0 ∧ g 1 = some c1 ∧ T il c1 k1 b1 ∧ 0 ≤ k1 ∧ b1 + 1 ≤ b ∧ ((cnt.toInt = 2 ∧ k0 + k1 + 16 ≤ c) ∨ (3 ≤ cnt.toInt ∧ ∃ (c2 : Nat) (k2 : Int), g 2 = some c2 ∧ T il c2 k2 b1 ∧ 0 ≤ k2 ∧ k0 + k1 + k2 + 24 ≤ c)) := by
  rcases h with ⟨q, h⟩ | ⟨q, h⟩ | ⟨q, h⟩ | ⟨q, h⟩ | ⟨q, h⟩ | ⟨q, h⟩ | ⟨q, h⟩
  · exfalso; clear h; omega
  · exfalso; clear h; omega
  · exact h
  · exfalso; clear h; omega
  · exfalso; clear h; omega
  · exfalso; clear h; omega
  · exfalso; clear h; omega
theorem tsc_13 (h : tsc N gc gg V T il op cnt ix gl g c b) (e : op.toInt = 13) : 2 ≤ cnt.toInt ∧ ∃ (c0 : Nat) (t0 : Int32) (k0 : Int) (c1 : Nat) (k1 : Int) (b1 : Nat), g 0 = some c0 ∧ t27 t0.toInt ∧ V c0 t0 k0 b1 ∧ 0 ≤ k0 ∧ g 1 = some c1 ∧ T true c1 k1 b1 ∧ 0 ≤ k1 ∧ b1 + 2 ≤ b ∧ k0 + k1 + 56 ≤ c := by
  rcases h with ⟨q, h⟩ | ⟨q, h⟩ | ⟨q, h⟩ | ⟨q, h⟩ | ⟨q, h⟩ | ⟨q, h⟩ | ⟨q, h⟩
  · exfalso; clear h; omega
  · exfalso; clear h; omega
  · exfalso; clear h; omega
  · exact h
  · exfalso; clear h; omega
  · exfalso; clear h; omega
  · exfalso; clear h; omega
theorem tsc_14 (h : tsc N gc gg V T il op cnt ix gl g c b) (e : op.toInt = 14 ∨ op.toInt = 15) : il = true ∧ 10 ≤ c := by
  rcases h with ⟨q, h⟩ | ⟨q, h⟩ | ⟨q, h⟩ | ⟨q, h⟩ | ⟨q, h⟩ | ⟨q, h⟩ | ⟨q, h⟩
  · exfalso; clear h; omega
  · exfalso; clear h; omega
  · exfalso; clear h; omega
  · exfalso; clear h; omega
  · exact h
  · exfalso; clear h; omega
  · exfalso; clear h; omega
theorem tsc_16 (h : tsc N gc gg V T il op cnt ix gl g c b) (e : op.toInt = 16) : (cnt.toInt = 0 ∧ gg = 64 ∧ 8 ≤ c) ∨ (1 ≤ cnt.toInt ∧ ∃ (c0 : Nat) (t0 : Int32) (k0 : Int), g 0 = some c0 ∧ t27 t0.toInt ∧ V c0 t0 k0 b ∧ 0 ≤ k0 ∧ k0 + 8 ≤ c) := by
  rcases h with ⟨q, h⟩ | ⟨q, h⟩ | ⟨q, h⟩ | ⟨q, h⟩ | ⟨q, h⟩ | ⟨q, h⟩ | ⟨q, h⟩
  · exfalso; clear h; omega
  · exfalso; clear h; omega
  · exfalso; clear h; omega
  · exfalso; clear h; omega
  · exfalso; clear h; omega
  · exact h
  · exfalso; clear h; omega
theorem tsc_17 (h : tsc N gc gg V T il op cnt ix gl g c b) (e : op.toInt = 17) : 1 ≤ cnt.toInt ∧ ∃ (c0 : Nat) (t0 : Int32) (k0 : Int), g 0 = some c0 ∧ (t0.toInt = 0 ∨ t27 t0.toInt) ∧ V c0 t0 k0 b ∧ 0 ≤ k0 ∧ k0 + 10 ≤ c := by
  rcases h with ⟨q, h⟩ | ⟨q, h⟩ | ⟨q, h⟩ | ⟨q, h⟩ | ⟨q, h⟩ | ⟨q, h⟩ | ⟨q, h⟩
  · exfalso; clear h; omega
  · exfalso; clear h; omega
  · exfalso; clear h; omega
  · exfalso; clear h; omega
  · exfalso; clear h; omega
  · exfalso; clear h; omega
  · exact h
theorem tsc_op (h : tsc N gc gg V T il op cnt ix gl g c b) : 10 ≤ op.toInt ∧ op.toInt ≤ 18 := by
  rcases h with ⟨q, h⟩ | ⟨q, h⟩ | ⟨q, h⟩ | ⟨q, h⟩ | ⟨q, h⟩ | ⟨q, h⟩ | ⟨q, h⟩ <;> clear h <;> omega
theorem ts_out (h : ts L f cpn cpb N fc gc gv tk gg d il a c b) : ∃ (d1 : Nat) (op pl : Int32) (nm : Value) (v : Int64) (t : Int32) (p n : Nat) (cnt ix gl : Int32) (g : Nat → Option Nat), d = d1 + 1 ∧ a ∈ L ∧ nP f a op pl nm v t p cnt ix gl ∧ aP L f cpn p n g ∧ (0 ≤ cnt.toInt ∧ cnt.toInt ≤ (n : Int) ∧ n < 100000) ∧ tsc N gc gg (fun a t c b => ∃ e, e ≤ d1 ∧ tv L f cpn cpb N fc gc gv tk e a t c b) (ts L f cpn cpb N fc gc gv tk gg d1) il op cnt ix gl g c b := by
  cases d with
  | zero => exact h.elim
  | succ d1 =>
    obtain ⟨op, pl, nm, v, t, p, n, cnt, ix, gl, g, h⟩ := h
    exact ⟨d1, op, pl, nm, v, t, p, n, cnt, ix, gl, g, rfl, h⟩
end TSC

/-! the reference: trees of statements in the pool -/
/-- what a node of a statement may be; V: values, T: statements below it (within a loop or not) -/
def tsc (N gc gg : Int) (V : Nat → Int32 → Int → Nat → Prop) (T : Bool → Nat → Int → Nat → Prop) (il : Bool) (op cnt ix gl : Int32) (g : Nat → Option Nat) (c : Int) (b : Nat) : Prop :=
  (op.toInt = 18 ∧ ∃ (cf : Nat → Nat) (kf : Nat → Int), (∀ i : Nat, (i : Int) < cnt.toInt → g i = some (cf i) ∧ 0 ≤ kf i ∧ T il (cf i) (kf i) b) ∧ ksum kf cnt.toInt.toNat ≤ c) ∨
  ((op.toInt = 10 ∨ op.toInt = 11) ∧ 1 ≤ cnt.toInt ∧ (0 ≤ ix.toInt ∧ ix.toInt < 128) ∧ ((gl.toInt = 1 ∧ ix.toInt < gc) ∨ (gl.toInt = 0 ∧ ix.toInt < N)) ∧ ∃ (c0 : Nat) (t0 : Int32) (k0 : Int), g 0 = some c0 ∧ t27 t0.toInt ∧ V c0 t0 k0 b ∧ 0 ≤ k0 ∧ k0 + 10 ≤ c) ∨
  (op.toInt = 12 ∧ 2 ≤ cnt.toInt ∧ ∃ (c0 : Nat) (t0 : Int32) (k0 : Int) (c1 : Nat) (k1 : Int) (b1 : Nat), g 0 = some c0 ∧ t27 t0.toInt ∧ V c0 t0 k0 b ∧ 0 ≤ k0 ∧ g 1 = some c1 ∧ T il c1 k1 b1 ∧ 0 ≤ k1 ∧ b1 + 1 ≤ b ∧ ((cnt.toInt = 2 ∧ k0 + k1 + 16 ≤ c) ∨ (3 ≤ cnt.toInt ∧ ∃ (c2 : Nat) (k2 : Int), g 2 = some c2 ∧ T il c2 k2 b1 ∧ 0 ≤ k2 ∧ k0 + k1 + k2 + 24 ≤ c))) ∨
  (op.toInt = 13 ∧ 2 ≤ cnt.toInt ∧ ∃ (c0 : Nat) (t0 : Int32) (k0 : Int) (c1 : Nat) (k1 : Int) (b1 : Nat), g 0 = some c0 ∧ t27 t0.toInt ∧ V c0 t0 k0 b1 ∧ 0 ≤ k0 ∧ g 1 = some c1 ∧ T true c1 k1 b1 ∧ 0 ≤ k1 ∧ b1 + 2 ≤ b ∧ k0 + k1 + 56 ≤ c) ∨
  ((op.toInt = 14 ∨ op.toInt = 15) ∧ il = true ∧ 10 ≤ c) ∨
  (op.toInt = 16 ∧ ((cnt.toInt = 0 ∧ gg = 64 ∧ 8 ≤ c) ∨ (1 ≤ cnt.toInt ∧ ∃ (c0 : Nat) (t0 : Int32) (k0 : Int), g 0 = some c0 ∧ t27 t0.toInt ∧ V c0 t0 k0 b ∧ 0 ≤ k0 ∧ k0 + 8 ≤ c))) ∨
  (op.toInt = 17 ∧ 1 ≤ cnt.toInt ∧ ∃ (c0 : Nat) (t0 : Int32) (k0 : Int), g 0 = some c0 ∧ (t0.toInt = 0 ∨ t27 t0.toInt) ∧ V c0 t0 k0 b ∧ 0 ≤ k0 ∧ k0 + 10 ≤ c)
/-- a statement's tree: depth, within a loop, root, cost, labels within labels -/
def ts (L : List Nat) (f : Nat → va_E) (cpn cpb : ClassId) (N fc gc : Int) (gv tk : Nat → Int) (gg : Int) : Nat → Bool → Nat → Int → Nat → Prop
  | 0, _, _, _, _ => False
  | d + 1, il, a, c, b => ∃ (op pl : Int32) (nm : Value) (v : Int64) (t : Int32) (p n : Nat) (cnt ix gl : Int32) (g : Nat → Option Nat), a ∈ L ∧ nP f a op pl nm v t p cnt ix gl ∧ aP L f cpn p n g ∧ (0 ≤ cnt.toInt ∧ cnt.toInt ≤ (n : Int) ∧ n < 100000) ∧ tsc N gc gg (fun a t c b => ∃ e, e ≤ d ∧ tv L f cpn cpb N fc gc gv tk e a t c b) (ts L f cpn cpb N fc gc gv tk gg d) il op cnt ix gl g c b
theorem tsc.mono {N gc gg : Int} {V V2 : Nat → Int32 → Int → Nat → Prop} {T T2 : Bool → Nat → Int → Nat → Prop} {il : Bool} {op cnt ix gl : Int32} {g : Nat → Option Nat} {c : Int} {b : Nat} (hV : ∀ a t c b, V a t c b → V2 a t c b) (hT : ∀ i a c b, T i a c b → T2 i a c b) (h : tsc N gc gg V T il op cnt ix gl g c b) : tsc N gc gg V2 T2 il op cnt ix gl g c b := by
  rcases h with ⟨q, cf, kf, h1, h2⟩ | ⟨q1, q2, q3, q4, c0, t0, k0, q5, q6, q7, q8⟩ | ⟨q1, q2, c0, t0, k0, c1, k1, b1, q3, q4, q5, q6, q7, q8, q9, q10, q11⟩ | ⟨q1, q2, c0, t0, k0, c1, k1, b1, q3, q4, q5, q6, q7, q8, q9⟩ | h | ⟨q1, q2⟩ | ⟨q1, q2, c0, t0, k0, q3, q4, q5, q6⟩
  · exact Or.inl ⟨q, cf, kf, fun i hi => ⟨(h1 i hi).1, (h1 i hi).2.1, hT _ _ _ _ (h1 i hi).2.2⟩, h2⟩
  · exact Or.inr (Or.inl ⟨q1, q2, q3, q4, c0, t0, k0, q5, q6, hV _ _ _ _ q7, q8⟩)
  · refine Or.inr (Or.inr (Or.inl ⟨q1, q2, c0, t0, k0, c1, k1, b1, q3, q4, hV _ _ _ _ q5, q6, q7, hT _ _ _ _ q8, q9, q10, ?_⟩))
    rcases q11 with w | ⟨w1, c2, k2, w2, w3, w4⟩
    · exact Or.inl w
    · exact Or.inr ⟨w1, c2, k2, w2, hT _ _ _ _ w3, w4⟩
  · exact Or.inr (Or.inr (Or.inr (Or.inl ⟨q1, q2, c0, t0, k0, c1, k1, b1, q3, q4, hV _ _ _ _ q5, q6, q7, hT _ _ _ _ q8, q9⟩)))
  · exact Or.inr (Or.inr (Or.inr (Or.inr (Or.inl h))))
  · refine Or.inr (Or.inr (Or.inr (Or.inr (Or.inr (Or.inl ⟨q1, ?_⟩)))))
    rcases q2 with w | ⟨w1, c0, t0, k0, w2, w3, w4, w5⟩
    · exact Or.inl w
    · exact Or.inr ⟨w1, c0, t0, k0, w2, w3, hV _ _ _ _ w4, w5⟩
  · exact Or.inr (Or.inr (Or.inr (Or.inr (Or.inr (Or.inr ⟨q1, q2, c0, t0, k0, q3, q4, hV _ _ _ _ q5, q6⟩)))))
theorem ts_hsh {L : List Nat} {f f2 : Nat → va_E} {cpn cpb : ClassId} {N fc gc : Int} {gv tk : Nat → Int} {gg : Int} (hh : hsh f f2) : ∀ (d : Nat) {il : Bool} {a : Nat} {c : Int} {b : Nat}, ts L f cpn cpb N fc gc gv tk gg d il a c b → ts L f2 cpn cpb N fc gc gv tk gg d il a c b
  | 0, _, _, _, _, h => h
  | d + 1, il, a, c, b, h => by
    obtain ⟨op, pl, nm, v, t, p, n, cnt, ix, gl, hq9r⟩ := h
    obtain ⟨g, h1, h2, h3, h4, h5⟩ := hq9r
    exact ⟨op, pl, nm, v, t, p, n, cnt, ix, gl, g, h1, hh.n (by decide) h2, ⟨h3.1, hh.a h3.2⟩, h4, tsc.mono (fun a t c b ⟨e, e1, e2⟩ => ⟨e, e1, tv_hsh hh e e2⟩) (fun i a c b q => ts_hsh hh d q) h5⟩

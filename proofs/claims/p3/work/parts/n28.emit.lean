/-! the reference: what emission makes -/
/-- the first n bytes made are W -/
def mdl (g : Nat → Int32) (n : Int32) (W : List Nat) : Prop := n.toInt = (W.length : Int) ∧ bl g n.toNatClampNeg = W
section MDL
variable {g g2 : Nat → Int32} {n n2 p : Int32} {W X Y : List Nat}
theorem mdl_0 (h : n.toInt = 0) : mdl g n [] := ⟨by rw [h]; rfl, by have := i32_clamp (x := n) (by omega); rw [show n.toNatClampNeg = 0 by omega]; rfl⟩
theorem mdl_app (h : mdl g n W) (hb : bl g2 n2.toNatClampNeg = bl g n.toNatClampNeg ++ Y) (h2 : 0 ≤ n2.toInt) : mdl g2 n2 (W ++ Y) := by
  rw [h.2] at hb
  refine ⟨?_, hb⟩
  have q := congrArg List.length hb
  rw [bl_len] at q
  have := i32_clamp (x := n2) h2
  omega
theorem mdl_sz (h : mdl g n (X ++ Y)) (hp : p.toInt = (X.length : Int)) (hb : bl g2 n2.toNatClampNeg = bl g p.toNatClampNeg ++ (leb 5 (n.toInt - p.toInt).toNat ++ bl (fun j => g (p.toNatClampNeg + j)) (n.toInt - p.toInt).toNat)) (h2 : 0 ≤ n2.toInt) : mdl g2 n2 (X ++ (leb 5 Y.length ++ Y)) := by
  obtain ⟨h3, h4⟩ := h
  rw [List.length_append] at h3
  have zp := i32_clamp (x := p) (by omega)
  have zn := i32_clamp (x := n) (by omega)
  have e1 : (n.toInt - p.toInt).toNat = Y.length := by omega
  have e2 : n.toNatClampNeg = X.length + Y.length := by omega
  have e3 : p.toNatClampNeg = X.length := by omega
  rw [e2, bl_add] at h4
  obtain ⟨e4, e5⟩ := List.append_inj h4 (by rw [bl_len])
  rw [e1, e3, e4, e5] at hb
  refine ⟨?_, hb⟩
  have q := congrArg List.length hb
  rw [bl_len] at q
  have := i32_clamp (x := n2) h2
  omega
theorem mdl_len (h : mdl g n W) : n.toInt = (W.length : Int) := h.1
end MDL
/-- a function's result as the module's tables say it -/
def qf9 (rs : Nat → Int32) : Nat → Int32 := fun j => if (rs j).toInt = 0 then 64 else rs j
theorem qf_64 {rs : Nat → Int32} {j : Nat} (h : (rs j).toInt = 0) : qf9 rs j = 64 := if_pos h
theorem qf_n {rs : Nat → Int32} {j : Nat} (h : (rs j).toInt ≠ 0) : qf9 rs j = rs j := if_neg h
theorem qf_gg {rs : Nat → Int32} {j : Nat} : (qf9 rs j).toInt = gg9 (rs j).toInt := by
  by_cases h : (rs j).toInt = 0
  · rw [qf_64 h, h]; decide
  · rw [qf_n h]; exact (if_neg h).symm
theorem qf_ty {rs : Nat → Int32} {j : Nat} (h : (rs j).toInt = 0 ∨ t27 (rs j).toInt) : ty (qf9 rs j).toInt := by
  by_cases q : (rs j).toInt = 0
  · rw [qf_64 q]; exact Or.inr (Or.inr (by decide))
  · rw [qf_n q]
    have := h.resolve_left q
    unfold t27 at this
    unfold ty
    omega
/-- signatures: of function f, as far as it is looked for -/
def sg9 (to : Nat → Int32) (tk : Nat → Int) (ft : Nat → Int32) (f : Nat) (R : List Nat) : Prop := tyI to tk ft f R ∧ ((to f).toInt = -1 ∨ (0 ≤ (to f).toInt ∧ ∃ r, R[(to f).toInt.toNat]? = some r ∧ tk r = tk f ∧ ft r = ft f))
section SG
variable {to : Nat → Int32} {tk : Nat → Int} {ft : Nat → Int32} {f k : Nat} {R : List Nat}
theorem sg_0 (h : tyI to tk ft f R) : sg9 (upd to f (-1)) tk ft f R := ⟨tyI_upd f (Nat.le_refl _) h, Or.inl (by rw [pk_us]; decide)⟩
theorem sg_k {x : Int32} (h : sg9 to tk ft f R) (hk : k < f) (hx : x = to k) (h1 : tk k = tk f) (h2 : ft k = ft f) : sg9 (upd to f x) tk ft f R := by
  obtain ⟨q0, r, q1, q2, q3⟩ := tyI_get f h.1 k hk
  exact ⟨tyI_upd f (Nat.le_refl _) h.1, Or.inr ⟨by rw [pk_us, hx]; exact q0, r, by rw [pk_us, hx]; exact q1, by rw [q2, h1], by rw [q3, h2]⟩⟩
theorem sg_old (h : sg9 to tk ft f R) (h0 : 0 ≤ (to f).toInt) : tyI to tk ft (f + 1) R := by
  rcases h.2 with q | ⟨q0, r, q1, q2, q3⟩
  · omega
  · exact ⟨R, h.1, Or.inr ⟨rfl, r, q0, q1, q2, q3⟩⟩
theorem sg_new {x : Int32} (h : sg9 to tk ft f R) (hx : x.toInt = (R.length : Int)) : tyI (upd to f x) tk ft (f + 1) (R ++ [f]) := ⟨R, tyI_upd f (Nat.le_refl _) h.1, Or.inl ⟨rfl, by rw [pk_us]; exact hx⟩⟩
end SG
/-- the bytes of the first n of a row -/
theorem bl_ps {T : Nat → Int32} {n : Nat} (h : ∀ i, i < n → t27 (T i).toInt) : ∀ p ∈ bl T n, p = 127 ∨ p = 126 := by
  intro p hp
  unfold bl at hp
  obtain ⟨i, hi, e⟩ := List.mem_map.mp hp
  have q := h i (List.mem_range.mp hi)
  unfold t27 at q
  subst e
  rcases q with q | q
  · exact Or.inl (bn_k (k := 127) q (by omega))
  · exact Or.inr (bn_k (k := 126) q (by omega))
theorem isT_9 {tk : Nat → Int} {rs : Nat → Int32} {T : Nat → Int32} {j n : Nat} {e : List Nat} (hn : (n : Int) = tk j) (h8 : n ≤ 8) (hT : ∀ i, i < n → t27 (T i).toInt) (hr : (rs j).toInt = 0 ∨ t27 (rs j).toInt) (he : e = (([96] ++ leb 5 n) ++ bl T n) ++ (if (rs j).toInt = 0 then leb 5 0 else leb 5 1 ++ [bn (rs j)])) : isT tk (qf9 rs) j e := by
  refine ⟨bl T n, by rw [bl_len]; exact hn, bl_ps hT, ?_⟩
  rw [he]
  unfold tyb
  rw [bl_len, leb_1 (by omega : n < 128), leb_1 (by omega : 0 < 128), leb_1 (by omega : 1 < 128)]
  by_cases q : (rs j).toInt = 0
  · rw [if_pos q, qf_64 q]
    simp
  · rw [if_neg q, qf_n q]
    have t := hr.resolve_left q
    unfold t27 at t
    have b : bn (rs j) = (rs j).toInt.toNat := bn_k (by omega) (by omega)
    rw [b, if_neg (by omega)]
    simp
theorem cFq_snoc {Q : Nat → List (Nat × Nat) → List ci → Prop} {e : List Nat} {k : Nat} : ∀ (m f : Nat) {bs : List Nat} {I : Nat}, cFq Q f m bs I → fQ Q (f + m) k e → cFq Q f (m + 1) (bs ++ e) (I + k + 1)
  | 0, f, bs, I, h, he => by
    obtain ⟨rfl, rfl⟩ := h
    exact ⟨e, [], k, 0, by simp, he, by omega, rfl, rfl⟩
  | m + 1, f, bs, I, h, he => by
    obtain ⟨e1, b, k1, I1, rfl, h2, h3, h4⟩ := h
    rw [show f + (m + 1) = f + 1 + m by omega] at he
    exact ⟨e1, b ++ e, k1, I1 + k + 1, by rw [List.append_assoc], h2, by omega, cFq_snoc m (f + 1) h4 he⟩

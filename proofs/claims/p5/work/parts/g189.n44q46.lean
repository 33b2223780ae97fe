/-! p5: the reference: what its tables hold of a module (pure) -/
def tyR (pc re : Nat → Int32) (M : Nat → Nat → Int32) (T : List (List Nat × Nat)) : Prop := ∀ (t : Nat) (x : List Nat × Nat), T[t]? = some x → (pc t).toInt = (x.1.length : Int) ∧ x.1.length ≤ 8 ∧ ((x.2 = 64 ∧ (re t).toInt = 0) ∨ (x.2 ≠ 64 ∧ (re t).toInt = (x.2 : Int))) ∧ ∀ (p y : Nat), x.1[p]? = some y → (M t p).toInt = (y : Int)
def fnR (to : Nat → Int64) (l : List Nat) : Prop := ∀ (j x : Nat), l[j]? = some x → (to j).toInt = (x : Int)
def meR (m : Nat × Nat × Nat) (n : Int32) (le mo : Int) : Prop := (n.toInt = 1 ∧ m.1 = 1 ∧ le = (m.2.1 : Int) ∧ mo = (m.2.2 : Int)) ∨ (n.toInt = 0 ∧ m = (0, 0, 65536))
def glR (gt gc gk : Nat → Int32) (G : List (Nat × Nat × Nat)) : Prop := ∀ (k : Nat) (x : Nat × Nat × Nat), G[k]? = some x → (gt k).toInt = (x.1 : Int) ∧ (gc k).toInt = (x.2.1 : Int) ∧ (gk k).toInt = (x.2.2 : Int)
def exR (na nl ek : Nat → Int32) (eo : Nat → Int64) (X : List (Nat × Nat × Nat × Nat)) : Prop := ∀ (k : Nat) (x : Nat × Nat × Nat × Nat), X[k]? = some x → (na k).toInt = (x.1 : Int) ∧ (nl k).toInt = (x.2.1 : Int) ∧ (ek k).toInt = (x.2.2.1 : Int) ∧ (eo k).toInt = (x.2.2.2 : Int)
def cdR (f : Nat → Int32) (lc ca ce : Nat → Int32) (M : Nat → Nat → Int32) (C : List (List Nat × List zIn)) : Prop := ∀ (k : Nat) (x : List Nat × List zIn), C[k]? = some x → (lc k).toInt = (x.1.length : Int) ∧ (∀ (j z : Nat), x.1[j]? = some z → (M k j).toInt = (z : Int)) ∧ 0 ≤ (ca k).toInt ∧ (ce k).toInt ≤ 2000 ∧ zK f (ce k).toInt.toNat 5001 [] [] (ca k).toInt.toNat = some (x.2, (ce k).toInt.toNat)
/-- the tables of the reference hold the module T -/
def rT (f : Nat → Int32) (T : zTab) (ty fu me gl ex co : Int32) (le mo : Int) (pc re gt gc gk na nl ek lc ca ce : Nat → Int32) (to eo : Nat → Int64) (M1 M2 : Nat → Nat → Int32) : Prop :=
  (ty.toInt = (T.1.length : Int) ∧ tyR pc re M1 T.1) ∧ (fu.toInt = (T.2.1.length : Int) ∧ fnR to T.2.1) ∧ meR T.2.2.1 me le mo ∧ (gl.toInt = (T.2.2.2.1.length : Int) ∧ glR gt gc gk T.2.2.2.1) ∧ (ex.toInt = (T.2.2.2.2.1.length : Int) ∧ exR na nl ek eo T.2.2.2.2.1) ∧ (co.toInt = (T.2.2.2.2.2.length : Int) ∧ cdR f lc ca ce M2 T.2.2.2.2.2)
/-- things one behind the other: those of l are read -/
def zI {α : Type} (f : Nat → Int32) (L M c : Nat) (r : Nat → Option (α × Nat)) (n k : Int) (l : List α) (a : Int32) : Prop := (l.length : Int) = k ∧ zV f L M r c = zA r (n - k).toNat l a.toNatClampNeg
theorem zI_0 {α : Type} {f : Nat → Int32} {L M c : Nat} {r : Nat → Option (α × Nat)} {n : Int32} {k : Int} {a : Int32} (h : zM f L M c = some (n.toInt.toNat, a.toNatClampNeg)) (hk : k = 0) : zI f L M c r n.toInt k [] a := by
  refine ⟨by rw [hk]; rfl, ?_⟩
  unfold zV
  rw [h, hk, Int.sub_zero]
theorem zV_n {α : Type} {f : Nat → Int32} {L M c : Nat} {r : Nat → Option (α × Nat)} (h : zM f L M c = none) : zV f L M r c = none := by
  unfold zV
  rw [h]
theorem zI_s {α : Type} {f : Nat → Int32} {L M c : Nat} {r : Nat → Option (α × Nat)} {n k : Int} {l : List α} {a a2 : Int32} {x : α} (h : zI f L M c r n k l a) (hn : k < n) (hx : r a.toNatClampNeg = some (x, a2.toNatClampNeg)) : zI f L M c r n (k + 1) (l ++ [x]) a2 := by
  obtain ⟨h1, h2⟩ := h
  refine ⟨by rw [List.length_append, List.length_singleton]; (first | (apply Int.le_antisymm <;> omega) | omega), ?_⟩
  rw [h2, show (n - k).toNat = (n - (k + 1)).toNat + 1 by (first | (apply Int.le_antisymm <;> omega) | omega), zA, hx]
theorem zI_n {α : Type} {f : Nat → Int32} {L M c : Nat} {r : Nat → Option (α × Nat)} {n k : Int} {l : List α} {a : Int32} (h : zI f L M c r n k l a) (hn : k < n) (hx : r a.toNatClampNeg = none) : zV f L M r c = none := by
  rw [h.2, show (n - k).toNat = (n - (k + 1)).toNat + 1 by (first | (apply Int.le_antisymm <;> omega) | omega), zA, hx]
theorem zI_e {α : Type} {f : Nat → Int32} {L M c : Nat} {r : Nat → Option (α × Nat)} {n k : Int} {l : List α} {a : Int32} (h : zI f L M c r n k l a) (hn : n ≤ k) : zV f L M r c = some (l, a.toNatClampNeg) := by
  rw [h.2, show (n - k).toNat = 0 by (first | (apply Int.le_antisymm <;> omega) | omega), zA]
theorem app_get {α : Type} {l : List α} {x y : α} {j : Nat} (h : (l ++ [x])[j]? = some y) : (j < l.length ∧ l[j]? = some y) ∨ (j = l.length ∧ y = x) := by
  by_cases e : j < l.length
  · rw [List.getElem?_append_left e] at h
    exact Or.inl ⟨e, h⟩
  · have hj : j = l.length := by
      have := (List.getElem?_eq_some_iff.mp h).1
      rw [List.length_append, List.length_singleton] at this
      (first | (apply Int.le_antisymm <;> omega) | omega)
    rw [hj, List.getElem?_append_right (Nat.le_refl _), Nat.sub_self] at h
    cases h
    exact Or.inr ⟨hj, rfl⟩
/-- within a type -/
theorem zT_n0 {f : Nat → Int32} {L a : Nat} (h : zE f L 96 a = none) : zType f L a = none := by
  unfold zType
  rw [h]
theorem zT_n1 {f : Nat → Int32} {L a b : Nat} (h : zE f L 96 a = some b) (h2 : zM f L 8 b = none) : zType f L a = none := by
  unfold zType
  rw [h]
  dsimp only
  rw [h2]
theorem zT_s {f : Nat → Int32} {L a b n c : Nat} (h : zE f L 96 a = some b) (h2 : zM f L 8 b = some (n, c)) : zType f L a = zTyC f L n [] c := by
  unfold zType
  rw [h]
  dsimp only
  rw [h2]
theorem zC_s {f : Nat → Int32} {L k a t b : Nat} {l : List Nat} (h : zTy f L a = some (t, b)) : zTyC f L (k + 1) l a = zTyC f L k (l ++ [t]) b := by
  unfold zTyC
  rw [zA, h]
theorem zC_n {f : Nat → Int32} {L k a : Nat} {l : List Nat} (h : zTy f L a = none) : zTyC f L (k + 1) l a = none := by
  unfold zTyC
  rw [zA, h]
theorem zC_e {f : Nat → Int32} {L a : Nat} {l : List Nat} : zTyC f L 0 l a = zTyE f L l a := rfl
theorem zEe_n {f : Nat → Int32} {L a : Nat} {l : List Nat} (h : zM f L 1 a = none) : zTyE f L l a = none := by
  unfold zTyE
  rw [h]
theorem zEe_0 {f : Nat → Int32} {L a k b : Nat} {l : List Nat} (h : zM f L 1 a = some (k, b)) (hk : k = 0) : zTyE f L l a = some ((l, 64), b) := by
  subst hk
  unfold zTyE
  rw [h]
  rfl
theorem zEe_1 {f : Nat → Int32} {L a k b : Nat} {l : List Nat} (h : zM f L 1 a = some (k, b)) (hk : k ≠ 0) : zTyE f L l a = (match zTy f L b with | some (t, g) => some ((l, t), g) | none => none) := by
  have := (zM_le h).1
  unfold zTyE
  rw [h]
  dsimp only
  rw [if_pos (by (first | (apply Int.le_antisymm <;> omega) | omega))] <;> rfl
/-- exports -/
theorem zX_n0 {f : Nat → Int32} {L a : Nat} (h : zM f L 30 a = none) : zExp f L a = none := by
  unfold zExp
  rw [h]
theorem zX_s {f : Nat → Int32} {L a n b : Nat} (h : zM f L 30 a = some (n, b)) : zExp f L a = if b + n < L ∧ (bn (f (b + n)) = 0 ∨ bn (f (b + n)) = 2 ∨ bn (f (b + n)) = 3) then (match zM f L 2147483647 (b + n + 1) with
      | some (v, c) => some ((b, n, bn (f (b + n)), v), c)
      | none => none) else none := by
  unfold zExp
  rw [h] <;> rfl
theorem zX_c {f : Nat → Int32} {lim c c2 o : Int32} {a n b : Nat} (h : zM f lim.toNatClampNeg 30 a = some (n, b)) (hc : c.toNatClampNeg = b + n) (h3 : rn f 1 c lim 1 c2 o) (h0 : 0 ≤ c.toInt) (hl : 0 ≤ lim.toInt) : zExp f lim.toNatClampNeg a = if o.toInt = 0 ∨ o.toInt = 2 ∨ o.toInt = 3 then (match zM f lim.toNatClampNeg 2147483647 c2.toNatClampNeg with
      | some (v, d) => some ((b, n, o.toInt.toNat, v), d)
      | none => none) else none := by
  have kc := i32_clamp h0
  have kl := i32_clamp hl
  rw [zX_s h, ← hc]
  rcases h3 with ⟨n1, n2, n3, n4, n5⟩ | ⟨n1, n2, n3, n4⟩
  · have k2 := i32_clamp (x := c2) (by (first | (apply Int.le_antisymm <;> omega) | omega))
    have e1 : bn (f c.toNatClampNeg) = o.toInt.toNat := by (first | (apply Int.le_antisymm <;> omega) | omega)
    rw [e1, show c.toNatClampNeg + 1 = c2.toNatClampNeg by (first | (apply Int.le_antisymm <;> omega) | omega)]
    by_cases w : o.toInt = 0 ∨ o.toInt = 2 ∨ o.toInt = 3
    · rw [if_pos w, if_pos ⟨by (first | (apply Int.le_antisymm <;> omega) | omega), by (first | (apply Int.le_antisymm <;> omega) | omega)⟩] <;> rfl
    · rw [if_neg w, if_neg (by (first | (apply Int.le_antisymm <;> omega) | omega))] <;> rfl
  · exact absurd n1 (by decide)
theorem zX_l {f : Nat → Int32} {L a n b : Nat} (h : zM f L 30 a = some (n, b)) (hn : L ≤ b + n) : zExp f L a = none := by
  rw [zX_s h, if_neg (by (first | (apply Int.le_antisymm <;> omega) | omega))]
/-- the memory -/
theorem zMe_n {f : Nat → Int32} {L a : Nat} (h : zM f L 1 a = none) : zMem f L a = none := by
  unfold zMem
  rw [h]
theorem zMe_0 {f : Nat → Int32} {L a k b : Nat} (h : zM f L 1 a = some (k, b)) (hk : k = 0) : zMem f L a = some ((0, 0, 65536), b) := by
  subst hk
  unfold zMem
  rw [h]
  rfl
theorem zMe_1 {f : Nat → Int32} {L a k b : Nat} (h : zM f L 1 a = some (k, b)) (hk : k ≠ 0) : zMem f L a = (match zFl f L b with
      | some (fl, c) => (match zM f L 4294967295 c with
        | some (x, d) => if fl = 1 then (match zM f L 4294967295 d with | some (y, e) => some ((1, x, y), e) | none => none) else some ((1, x, 65536), d)
        | none => none)
      | none => none) := by
  have := (zM_le h).1
  unfold zMem
  rw [h]
  dsimp only
  rw [if_pos (by (first | (apply Int.le_antisymm <;> omega) | omega))] <;> rfl

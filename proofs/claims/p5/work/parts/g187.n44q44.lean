/-! p5: the reference: a code (pure) -/
section ZK
variable {f : Nat → Int32} {L : Nat} {st : List Nat} {a a1 a2 lim r t : Int32}
theorem rk_n {n x : Nat} {is : List zIn} (h : zK1 f L st x = none) : zK f L (n + 1) st is x = none := by
  rw [zK, h]
theorem rk_go {n x b : Nat} {is : List zIn} {i : zIn} {s2 : List Nat} (h : zK1 f L st x = some (i, some s2, b)) : zK f L (n + 1) st is x = zK f L n s2 (is ++ [i]) b := by
  rw [zK, h]
theorem rk_e {n x b : Nat} {is : List zIn} {i : zIn} (h : zK1 f L st x = some (i, none, b)) : zK f L (n + 1) st is x = some (is ++ [i], b) := by
  rw [zK, h]
theorem k1_l (h : lim.toInt ≤ a.toInt) (ha : 0 ≤ a.toInt) (hl : 0 ≤ lim.toInt) : zK1 f lim.toNatClampNeg st a.toNatClampNeg = none := by
  have ka := i32_clamp ha
  have kl := i32_clamp hl
  unfold zK1
  rw [if_neg (by (first | (apply Int.le_antisymm <;> omega) | omega))]
theorem k1_o (h : rn f 1 a lim 1 a1 r) (ha : 0 ≤ a.toInt) (hl : 0 ≤ lim.toInt) (hr : 2 ≤ r.toInt ∧ r.toInt ≤ 4) (h2 : rn f 1 a1 lim 1 a2 t) : zK1 f lim.toNatClampNeg st a.toNatClampNeg = if (t.toInt = 64 ∨ t.toInt = 127 ∨ t.toInt = 126) ∧ st.length < 100 then some ((r.toInt.toNat, t.toInt.toNat, []), some ((if r.toInt = 4 then 1 else 0) :: st), a2.toNatClampNeg) else none := by
  have ka := i32_clamp ha
  have kl := i32_clamp hl
  rcases h with ⟨n1, n2, n3, n4, n5⟩ | ⟨n1, n2, n3, n4⟩
  · have k1 := i32_clamp (x := a1) (by (first | (apply Int.le_antisymm <;> omega) | omega))
    rcases h2 with ⟨m1, m2, m3, m4, m5⟩ | ⟨m1, m2, m3, m4⟩
    · have k2 := i32_clamp (x := a2) (by (first | (apply Int.le_antisymm <;> omega) | omega))
      have e1 : bn (f a.toNatClampNeg) = r.toInt.toNat := by (first | (apply Int.le_antisymm <;> omega) | omega)
      have e2 : bn (f (a.toNatClampNeg + 1)) = t.toInt.toNat := by rw [show a.toNatClampNeg + 1 = a1.toNatClampNeg by (first | (apply Int.le_antisymm <;> omega) | omega)]; (first | (apply Int.le_antisymm <;> omega) | omega)
      unfold zK1
      rw [e1, e2, if_pos (by (first | (apply Int.le_antisymm <;> omega) | omega)), if_pos (by (first | (apply Int.le_antisymm <;> omega) | omega))]
      by_cases w : (t.toInt = 64 ∨ t.toInt = 127 ∨ t.toInt = 126) ∧ st.length < 100
      · rw [if_pos w, if_pos ⟨by (first | (apply Int.le_antisymm <;> omega) | omega), by (first | (apply Int.le_antisymm <;> omega) | omega), w.2⟩, show a.toNatClampNeg + 2 = a2.toNatClampNeg by (first | (apply Int.le_antisymm <;> omega) | omega)]
        by_cases q : r.toInt = 4
        · rw [if_pos q, if_pos (by (first | (apply Int.le_antisymm <;> omega) | omega))]
        · rw [if_neg q, if_neg (by (first | (apply Int.le_antisymm <;> omega) | omega))]
      · rw [if_neg w, if_neg (fun z => w ⟨by (first | (apply Int.le_antisymm <;> omega) | omega), z.2.2⟩)]
    · exact absurd m1 (by decide)
  · exact absurd n1 (by decide)
theorem k1_ol (h : rn f 1 a lim 1 a1 r) (ha : 0 ≤ a.toInt) (hl : 0 ≤ lim.toInt) (hr : 2 ≤ r.toInt ∧ r.toInt ≤ 4) (h2 : lim.toInt ≤ a1.toInt) : zK1 f lim.toNatClampNeg st a.toNatClampNeg = none := by
  have ka := i32_clamp ha
  have kl := i32_clamp hl
  rcases h with ⟨n1, n2, n3, n4, n5⟩ | ⟨n1, n2, n3, n4⟩
  · unfold zK1
    rw [if_pos (by (first | (apply Int.le_antisymm <;> omega) | omega)), if_pos (by (first | (apply Int.le_antisymm <;> omega) | omega)), if_neg (by (first | (apply Int.le_antisymm <;> omega) | omega))]
  · exact absurd n1 (by decide)
theorem k1_s (h : rn f 1 a lim 1 a1 r) (ha : 0 ≤ a.toInt) (hl : 0 ≤ lim.toInt) (hr : r.toInt = 5) : zK1 f lim.toNatClampNeg st a.toNatClampNeg = if st.headD 0 = 1 then some ((5, 0, []), some (0 :: st.tail), a1.toNatClampNeg) else none := by
  have ka := i32_clamp ha
  have kl := i32_clamp hl
  rcases h with ⟨n1, n2, n3, n4, n5⟩ | ⟨n1, n2, n3, n4⟩
  · have k1 := i32_clamp (x := a1) (by (first | (apply Int.le_antisymm <;> omega) | omega))
    unfold zK1
    rw [if_pos (by (first | (apply Int.le_antisymm <;> omega) | omega)), if_neg (by (first | (apply Int.le_antisymm <;> omega) | omega)), if_pos (by (first | (apply Int.le_antisymm <;> omega) | omega)), show a.toNatClampNeg + 1 = a1.toNatClampNeg by (first | (apply Int.le_antisymm <;> omega) | omega)]
  · exact absurd n1 (by decide)
theorem k1_e (h : rn f 1 a lim 1 a1 r) (ha : 0 ≤ a.toInt) (hl : 0 ≤ lim.toInt) (hr : r.toInt = 11) : zK1 f lim.toNatClampNeg st a.toNatClampNeg = some ((11, 0, []), (if st = [] then none else some st.tail), a1.toNatClampNeg) := by
  have ka := i32_clamp ha
  have kl := i32_clamp hl
  rcases h with ⟨n1, n2, n3, n4, n5⟩ | ⟨n1, n2, n3, n4⟩
  · have k1 := i32_clamp (x := a1) (by (first | (apply Int.le_antisymm <;> omega) | omega))
    unfold zK1
    rw [if_pos (by (first | (apply Int.le_antisymm <;> omega) | omega)), if_neg (by (first | (apply Int.le_antisymm <;> omega) | omega)), if_neg (by (first | (apply Int.le_antisymm <;> omega) | omega)), if_pos (by (first | (apply Int.le_antisymm <;> omega) | omega)), show a.toNatClampNeg + 1 = a1.toNatClampNeg by (first | (apply Int.le_antisymm <;> omega) | omega)]
  · exact absurd n1 (by decide)
theorem k1_i (h : rn f 1 a lim 1 a1 r) (ha : 0 ≤ a.toInt) (hl : 0 ≤ lim.toInt) (hr : ¬ (2 ≤ r.toInt ∧ r.toInt ≤ 4) ∧ r.toInt ≠ 5 ∧ r.toInt ≠ 11) : zK1 f lim.toNatClampNeg st a.toNatClampNeg = (match zQ f lim.toNatClampNeg r.toInt.toNat a1.toNatClampNeg with
      | some (x, b) => some ((r.toInt.toNat, x.1, x.2), some st, b)
      | none => none) := by
  have ka := i32_clamp ha
  have kl := i32_clamp hl
  rcases h with ⟨n1, n2, n3, n4, n5⟩ | ⟨n1, n2, n3, n4⟩
  · have k1 := i32_clamp (x := a1) (by (first | (apply Int.le_antisymm <;> omega) | omega))
    have e1 : bn (f a.toNatClampNeg) = r.toInt.toNat := by (first | (apply Int.le_antisymm <;> omega) | omega)
    unfold zK1
    rw [e1, if_pos (by (first | (apply Int.le_antisymm <;> omega) | omega)), if_neg (by (first | (apply Int.le_antisymm <;> omega) | omega)), if_neg (by (first | (apply Int.le_antisymm <;> omega) | omega)), if_neg (by (first | (apply Int.le_antisymm <;> omega) | omega)), show a.toNatClampNeg + 1 = a1.toNatClampNeg by (first | (apply Int.le_antisymm <;> omega) | omega)] <;> rfl
  · exact absurd n1 (by decide)
end ZK
/-- what is open, by places: below bd, innermost first -/
def obR (bk b el : Nat → Int32) : Nat → List Nat → Prop
  | _, [] => True
  | bd, x :: st => 0 ≤ (bk st.length).toInt ∧ (bk st.length).toNatClampNeg < bd ∧ (x = if bn (b (bk st.length).toNatClampNeg) = 4 ∧ (el (bk st.length).toNatClampNeg).toInt < 0 then 1 else 0) ∧ obR bk b el (bk st.length).toNatClampNeg st
theorem obR_up {bk b el bk2 el2 : Nat → Int32} : ∀ {st : List Nat} {bd bd2 : Nat}, obR bk b el bd st → bd ≤ bd2 → (∀ j, j < st.length → bk2 j = bk j) → (∀ k, k < bd → el2 k = el k) → obR bk2 b el2 bd2 st := by
  intro st
  induction st with
  | nil => intros; trivial
  | cons x st ih =>
    intro bd bd2 h hb hg he
    obtain ⟨h1, h2, h3, h4⟩ := h
    unfold obR
    rw [hg st.length (by rw [List.length_cons]; (first | (apply Int.le_antisymm <;> omega) | omega)), he _ h2]
    exact ⟨h1, by (first | (apply Int.le_antisymm <;> omega) | omega), h3, ih h4 (Nat.le_refl _) (fun j hj => hg j (by rw [List.length_cons]; (first | (apply Int.le_antisymm <;> omega) | omega))) (fun k hk => he k (by (first | (apply Int.le_antisymm <;> omega) | omega)))⟩
theorem obR_o {bk b el : Nat → Int32} {st : List Nat} {a a2 r : Int32} {n : Nat} (h : obR bk b el a.toNatClampNeg st) (ha : 0 ≤ a.toInt) (ha2 : a.toInt < a2.toInt) (hb : bn (b a.toNatClampNeg) = r.toInt.toNat) (hr : 2 ≤ r.toInt) (hn : n = st.length) : obR (upd bk n a) b (upd el a.toNatClampNeg (-1)) a2.toNatClampNeg ((if r.toInt = 4 then 1 else 0) :: st) := by
  have ka := i32_clamp ha
  have k2 := i32_clamp (x := a2) (by (first | (apply Int.le_antisymm <;> omega) | omega))
  subst hn
  unfold obR
  rw [pk_us, pk_us]
  refine ⟨ha, by (first | (apply Int.le_antisymm <;> omega) | omega), ?_, obR_up h (Nat.le_refl _) (fun j hj => pk_un (by (first | (apply Int.le_antisymm <;> omega) | omega))) (fun k hk => pk_un (by (first | (apply Int.le_antisymm <;> omega) | omega)))⟩
  by_cases q : r.toInt = 4
  · rw [if_pos q, if_pos ⟨by (first | (apply Int.le_antisymm <;> omega) | omega), by decide⟩]
  · rw [if_neg q, if_neg (by (first | (apply Int.le_antisymm <;> omega) | omega))]
theorem obR_s {bk b el : Nat → Int32} {st : List Nat} {bd bd2 : Nat} {p v : Int32} (h : obR bk b el bd st) (hs : 0 < st.length) (hp : p = bk (st.length - 1)) (hv : 0 ≤ v.toInt) (hbd : bd ≤ bd2) : obR bk b (upd el p.toNatClampNeg v) bd2 (0 :: st.tail) := by
  cases st with
  | nil => exact absurd hs (by rw [List.length_nil]; (first | (apply Int.le_antisymm <;> omega) | omega))
  | cons x st =>
    obtain ⟨h1, h2, h3, h4⟩ := h
    have e : p = bk st.length := by rw [hp, List.length_cons, Nat.add_sub_cancel]
    subst e
    rw [List.tail_cons]
    refine ⟨h1, by (first | (apply Int.le_antisymm <;> omega) | omega), ?_, obR_up h4 (Nat.le_refl _) (fun _ _ => rfl) (fun k hk => pk_un (by (first | (apply Int.le_antisymm <;> omega) | omega)))⟩
    rw [pk_us, if_neg (by (first | (apply Int.le_antisymm <;> omega) | omega))]
theorem obR_e {bk b el : Nat → Int32} {st : List Nat} {bd bd2 : Nat} (h : obR bk b el bd st) (hbd : bd ≤ bd2) : obR bk b el bd2 st.tail := by
  cases st with
  | nil => trivial
  | cons x st =>
    obtain ⟨h1, h2, h3, h4⟩ := h
    exact obR_up h4 (by (first | (apply Int.le_antisymm <;> omega) | omega)) (fun _ _ => rfl) (fun _ _ => rfl)
/-- whether the innermost is an if without else -/
theorem obR_h {bk b el : Nat → Int32} {st : List Nat} {bd : Nat} {p : Int32} (h : obR bk b el bd st) (hs : 0 < st.length) (hp : p = bk (st.length - 1)) : 0 ≤ p.toInt ∧ p.toNatClampNeg < bd ∧ (st.headD 0 = 1 ↔ bn (b p.toNatClampNeg) = 4 ∧ (el p.toNatClampNeg).toInt < 0) := by
  cases st with
  | nil => exact absurd hs (by rw [List.length_nil]; (first | (apply Int.le_antisymm <;> omega) | omega))
  | cons x st =>
    obtain ⟨h1, h2, h3, h4⟩ := h
    have e : p = bk st.length := by rw [hp, List.length_cons, Nat.add_sub_cancel]
    subst e
    refine ⟨h1, h2, ?_⟩
    show x = 1 ↔ _
    rw [h3]
    by_cases q : bn (b (bk st.length).toNatClampNeg) = 4 ∧ (el (bk st.length).toNatClampNeg).toInt < 0
    · rw [if_pos q]
      exact ⟨fun _ => q, fun _ => rfl⟩
    · rw [if_neg q]
      exact ⟨fun z => absurd z (by decide), fun z => absurd z q⟩
/-- the instructions of a code: some are read -/
def kR (f : Nat → Int32) (L d : Nat) (a oc : Int32) (bk el : Nat → Int32) (is : List zIn) (st : List Nat) : Prop := zK f L 5001 [] [] d = zK f L (5001 - is.length) st is a.toNatClampNeg ∧ (is.length : Int) ≤ a.toInt ∧ (st.length : Int) = oc.toInt ∧ obR bk f el a.toNatClampNeg st
theorem kR_n {f bk el : Nat → Int32} {L d : Nat} {a oc : Int32} {is : List zIn} {st : List Nat} (h : kR f L d a oc bk el is st) (ha : a.toInt ≤ 5000) (hn : zK1 f L st a.toNatClampNeg = none) : zK f L 5001 [] [] d = none := by
  rw [h.1, show 5001 - is.length = (5000 - is.length) + 1 by have := h.2.1; (first | (apply Int.le_antisymm <;> omega) | omega)]
  exact rk_n hn
theorem kR_go {f bk el bk2 el2 : Nat → Int32} {L d : Nat} {a oc a2 oc2 : Int32} {is : List zIn} {st s2 : List Nat} {i : zIn} (h : kR f L d a oc bk el is st) (ha : a.toInt ≤ 5000) (hk : zK1 f L st a.toNatClampNeg = some (i, some s2, a2.toNatClampNeg)) (h2 : a.toInt < a2.toInt) (ho : (s2.length : Int) = oc2.toInt) (hb : obR bk2 f el2 a2.toNatClampNeg s2) : kR f L d a2 oc2 bk2 el2 (is ++ [i]) s2 := by
  have := h.2.1
  refine ⟨?_, by rw [List.length_append, List.length_singleton]; (first | (apply Int.le_antisymm <;> omega) | omega), ho, hb⟩
  rw [h.1, show 5001 - is.length = (5001 - (is ++ [i]).length) + 1 by rw [List.length_append, List.length_singleton]; (first | (apply Int.le_antisymm <;> omega) | omega), rk_go hk]
theorem kR_e {f bk el : Nat → Int32} {L d b : Nat} {a oc : Int32} {is : List zIn} {st : List Nat} {i : zIn} (h : kR f L d a oc bk el is st) (ha : a.toInt ≤ 5000) (hk : zK1 f L st a.toNatClampNeg = some (i, none, b)) : zK f L 5001 [] [] d = some (is ++ [i], b) := by
  have := h.2.1
  rw [h.1, show 5001 - is.length = (5000 - is.length) + 1 by (first | (apply Int.le_antisymm <;> omega) | omega), rk_e hk]
theorem zCo_n {f : Nat → Int32} {L a n b : Nat} (h : zM f L 4294967295 a = some (n, b)) (hn : ¬ n ≤ L - b) : zCode f L a = none := by
  unfold zCode
  rw [h]
  dsimp only
  rw [if_neg hn]
theorem zCo_0 {f : Nat → Int32} {L a : Nat} (h : zM f L 4294967295 a = none) : zCode f L a = none := by
  unfold zCode
  rw [h]
theorem zCo_s {f : Nat → Int32} {L a n b E : Nat} (h : zM f L 4294967295 a = some (n, b)) (hn : n ≤ L - b) (hE : E = b + n) : zCode f L a = (match zBody f E b with | some (ls, is, e) => if e = E then some ((ls, is), e) else none | none => none) := by
  subst hE
  unfold zCode
  rw [h]
  dsimp only
  rw [if_pos hn] <;> rfl
theorem zBo_l {f : Nat → Int32} {L a : Nat} (h : zLo f L a = none) : zBody f L a = none := by
  unfold zBody
  rw [h]
theorem zBo_s {f : Nat → Int32} {L a d : Nat} {ls : List Nat} (h : zLo f L a = some (ls, d)) : zBody f L a = (match zK f L 5001 [] [] d with | some (is, e) => some (ls, is, e) | none => none) := by
  unfold zBody
  rw [h] <;> rfl
theorem zLo_s {f : Nat → Int32} {L a k c : Nat} (h : zM f L 60 a = some (k, c)) : zLo f L a = zR f L k [] c := by
  unfold zLo
  rw [h]
theorem zLo_n {f : Nat → Int32} {L a : Nat} (h : zM f L 60 a = none) : zLo f L a = none := by
  unfold zLo
  rw [h]
theorem zR_s {f : Nat → Int32} {L k a n b t c : Nat} {l : List Nat} (h : zM f L 60 a = some (n, b)) (hn : n + l.length ≤ 60) (h2 : zTy f L b = some (t, c)) : zR f L (k + 1) l a = zR f L k (l ++ List.replicate n t) c := by
  rw [zR, zM_r h, if_pos (by (first | (apply Int.le_antisymm <;> omega) | omega))]
  dsimp only
  rw [h2]
theorem zR_n1 {f : Nat → Int32} {L k a : Nat} {l : List Nat} (h : zM f L 60 a = none) : zR f L (k + 1) l a = none := by
  rw [zR, zM_d h (by (first | (apply Int.le_antisymm <;> omega) | omega))]
theorem zR_n2 {f : Nat → Int32} {L k a n b : Nat} {l : List Nat} (h : zM f L 60 a = some (n, b)) (hn : 60 < n + l.length) (hl : l.length ≤ 60) : zR f L (k + 1) l a = none := by
  rw [zR, zM_r h, if_neg (by (first | (apply Int.le_antisymm <;> omega) | omega))]
theorem zR_n3 {f : Nat → Int32} {L k a n b : Nat} {l : List Nat} (h : zM f L 60 a = some (n, b)) (h2 : zTy f L b = none) : zR f L (k + 1) l a = none := by
  rw [zR, zM_r h]
  by_cases w : n ≤ 60 - l.length
  · rw [if_pos w]
    dsimp only
    rw [h2]
  · rw [if_neg w]

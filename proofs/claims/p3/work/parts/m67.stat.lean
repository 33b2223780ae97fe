/-! the reference: the code of statements -/
/-- which labels are open: bk of them, the loop's is the lp-th -/
def lpk (B : List vt) (bk lp : Nat) : Prop := B.length = bk + 1 ∧ (lp ≠ 0 → lp ≤ bk ∧ ∃ x y : vt, B[bk - lp]? = some x ∧ x.1 = 3 ∧ B[bk - lp + 1]? = some y ∧ y.2.1 = 64)
def bot9 (B : List vt) (gg : Int) : Prop := ∃ x : vt, B[B.length - 1]? = some x ∧ x.2.1 = gg
theorem lpk_d {o g hb d d' : Int} {R : List vt} {bk lp : Nat} (h : lpk ((o, g, hb, d) :: R) bk lp) : lpk ((o, g, hb, d') :: R) bk lp := by
  obtain ⟨h1, h2⟩ := h
  refine ⟨h1, fun z => ?_⟩
  obtain ⟨h3, x, y, h4, h5, h6, h7⟩ := h2 z
  refine ⟨h3, ?_⟩
  cases e : bk - lp with
  | zero =>
    rw [e] at h4 h6
    have ex : (o, g, hb, d) = x := by simpa using h4
    rw [← ex] at h5
    exact ⟨(o, g, hb, d'), y, rfl, h5, by simpa using h6, h7⟩
  | succ k =>
    rw [e] at h4 h6
    exact ⟨x, y, by simpa using h4, h5, by simpa using h6, h7⟩
theorem bot_d {o g hb d d' gg : Int} {R : List vt} (h : bot9 ((o, g, hb, d) :: R) gg) : bot9 ((o, g, hb, d') :: R) gg := by
  obtain ⟨x, h1, h2⟩ := h
  cases R with
  | nil =>
    have ex : (o, g, hb, d) = x := by simpa using h1
    rw [← ex] at h2
    exact ⟨(o, g, hb, d'), rfl, h2⟩
  | cons y R => exact ⟨x, by simpa using h1, h2⟩
theorem lpk_in {x : vt} {B : List vt} {bk lp : Nat} (h : lpk B bk lp) : lpk (x :: B) (bk + 1) lp := by
  obtain ⟨h1, h2⟩ := h
  refine ⟨by rw [List.length_cons, h1], fun z => ?_⟩
  obtain ⟨h3, y, w, h4, h5, h6, h7⟩ := h2 z
  refine ⟨by omega, y, w, ?_, h5, ?_, h7⟩
  · rw [show bk + 1 - lp = bk - lp + 1 by omega, List.getElem?_cons_succ]; exact h4
  · rw [show bk + 1 - lp + 1 = bk - lp + 1 + 1 by omega, List.getElem?_cons_succ]; exact h6
theorem bot_in {x : vt} {B : List vt} {gg : Int} (h : bot9 B gg) : bot9 (x :: B) gg := by
  obtain ⟨y, h1, h2⟩ := h
  have hl : 0 < B.length := by
    rcases B with _ | ⟨z, B⟩
    · cases h1
    · simp
  refine ⟨y, ?_, h2⟩
  rw [List.length_cons, show B.length + 1 - 1 = B.length - 1 + 1 by omega, List.getElem?_cons_succ]
  exact h1
/-- the code of a statement: the height stays, the top block may be dead behind it -/
def stk (N fc gc : Int) (gv tk : Nat → Int) (l : List ci) (bk lp : Nat) (gg c : Int) (b : Nat) : Prop :=
  iokl2 l ∧ 8 * (l.length : Int) ≤ c ∧ 5 * ((enl l).length : Int) ≤ c ∧ (∀ S : List Nat, S.length + b ≤ 100 → dl l S = some S) ∧
  ∀ (o g hb d : Int) (R : List vt) (h : Int), 0 ≤ hb → hb ≤ h → (∀ y ∈ R, 0 ≤ y.2.2.1) → lpk ((o, g, hb, d) :: R) bk lp → bot9 ((o, g, hb, d) :: R) gg → ∃ d', cz N gv tk fc gc l ((o, g, hb, d) :: R) h ((o, g, hb, d') :: R) h
section ST
variable {N fc gc : Int} {gv tk : Nat → Int} {bk lp b : Nat} {gg : Int}
theorem stk_nil : stk N fc gc gv tk [] bk lp gg 0 b := ⟨trivial, by simp, by simp [enl], fun S _ => rfl, fun o g hb d R h _ _ _ _ _ => ⟨d, rfl, rfl⟩⟩
theorem stk_app {l l2 : List ci} {c c2 : Int} (h : stk N fc gc gv tk l bk lp gg c b) (h2 : stk N fc gc gv tk l2 bk lp gg c2 b) : stk N fc gc gv tk (l ++ l2) bk lp gg (c + c2) b := by
  obtain ⟨a1, a2, a3, a4, a5⟩ := h
  obtain ⟨b1, b2, b3, b4, b5⟩ := h2
  refine ⟨iokl2_app a1 b1, by rw [List.length_append]; omega, by rw [enl_app, List.length_append]; omega, fun S hS => dl_app (a4 S hS) (b4 S hS), fun o g hb d R h x1 x2 x3 x4 x5 => ?_⟩
  obtain ⟨d1, w1⟩ := a5 o g hb d R h x1 x2 x3 x4 x5
  obtain ⟨d2, w2⟩ := b5 o g hb d1 R h x1 x2 x3 (lpk_d x4) (bot_d x5)
  exact ⟨d2, cz_app w1 w2⟩
theorem stk_le {l : List ci} {c c2 : Int} (h : stk N fc gc gv tk l bk lp gg c b) (hc : c ≤ c2) : stk N fc gc gv tk l bk lp gg c2 b := ⟨h.1, by have := h.2.1; omega, by have := h.2.2.1; omega, h.2.2.2⟩
/-- a value alone -/
theorem stk_v0 {l : List ci} {t c : Int} (h : vok N fc gc gv tk l t c b) (ht : t = 0) : stk N fc gc gv tk l bk lp gg c b := by
  subst ht
  obtain ⟨a1, a2, a3, a4, -, a6⟩ := h
  refine ⟨a1, a2, a3, a4, fun o g hb d R h x1 x2 x3 _ _ => ?_⟩
  obtain ⟨d', w⟩ := a6 o g hb d R h x1 x2 x3
  rw [show h + ga0 0 = h from by rw [(ga0_b 0).2.2.2 rfl, Int.add_zero]] at w
  exact ⟨d', w⟩
/-- a value that is taken away -/
theorem stk_10 {l : List ci} {t c c2 o v : Int} (h : vok N fc gc gv tk l t c b) (ht : t ≠ 0) (ho : o = 26 ∨ o = 33 ∨ o = 36) (h1 : o = 33 → 0 ≤ v ∧ v < N) (h2 : o = 36 → 0 ≤ v ∧ v < gc) (hv : 0 ≤ v ∧ v < 128) (h26 : o = 26 → v = 0) (hc : c + 10 ≤ c2) : stk N fc gc gv tk (l ++ [(o, v)]) bk lp gg c2 b := by
  obtain ⟨a1, a2, a3, a4, a5, -⟩ := h
  have el : (enl [(o, v)]).length ≤ 2 := by
    rw [enl_one]
    by_cases q : o = 26
    · rw [en_x (by omega)]; simp
    · rw [en_u (by omega) hv.1 hv.2]; simp
  refine ⟨iokl2_app a1 ⟨Or.inl (by unfold iok two; dsimp only; omega), trivial⟩, by rw [List.length_append, List.length_singleton]; omega, by rw [enl_app, List.length_append]; omega, fun S hS => dl_app (a4 S hS) (dl_1 (by dsimp only; omega)), fun o' g hb d R h x1 x2 x3 _ _ => ⟨d, ?_⟩⟩
  have w := ((a5 ht).seq (Wv.w10 ho h1 h2) (by omega) (by omega) (show (0 : Int) = 1 - 1 + 0 by omega)) o' g hb d R h x1 (by omega) x3
  rw [show h - 0 + 0 = h by omega] at w
  exact w
/-- break, continue -/
theorem stk_br {v : Int} {k : Nat} (hl : lp ≠ 0) (hk : k = 0 ∨ k = 1) (hv : v = (bk : Int) - lp + k) (hbk : bk ≤ 100) (hlb : lp ≤ bk) : stk N fc gc gv tk [(12, v)] bk lp gg 10 b := by
  refine ⟨⟨Or.inl (by unfold iok two; dsimp only; omega), trivial⟩, by simp, by rw [enl_one, en_u (by omega) (by omega) (by omega)]; simp, fun S _ => dl_1 (by dsimp only; omega), fun o g hb d R h x1 x2 x3 x4 _ => ⟨1, ?_⟩⟩
  have t := tp_of (o := o) (g := g) (d := d) (p := 0) (h := h) x1 (by omega) (by omega) x3
  refine cz_one ⟨c1_d t (by omega) x2, o, g, hb, d, R, rfl, ⟨fun _ => ?_, fun z => by dsimp only at z; omega, fun z => by dsimp only at z; omega⟩, by dsimp only; omega, by dsimp only; omega, by dsimp only; omega⟩
  obtain ⟨-, x4⟩ := x4
  obtain ⟨-, x, y, q1, q2, q3, q4⟩ := x4 hl
  rcases hk with rfl | rfl
  · exact ⟨x, by show _[v.toNat]? = _; rw [show v.toNat = bk - lp by omega]; exact q1, fun z => absurd q2 z⟩
  · exact ⟨y, by show _[v.toNat]? = _; rw [show v.toNat = bk - lp + 1 by omega]; exact q3, fun _ z => absurd q4 z⟩
/-- return -/
theorem stk_ret0 (hg : gg = 64) : stk N fc gc gv tk [(15, 0)] bk lp gg 8 b := by
  refine ⟨⟨Or.inl (by unfold iok two; dsimp only; omega), trivial⟩, by simp, by rw [enl_one, en_x (by omega)]; simp, fun S _ => dl_1 (by dsimp only; omega), fun o g hb d R h x1 x2 x3 _ x5 => ⟨1, ?_⟩⟩
  have t := tp_of (o := o) (g := g) (d := d) (p := 0) (h := h) x1 (by omega) (by omega) x3
  refine cz_one ⟨c1_d t (by omega) x2, o, g, hb, d, R, rfl, ⟨fun z => by dsimp only at z; omega, fun z => by dsimp only at z; omega, fun _ => ?_⟩, by dsimp only; omega, by dsimp only; omega, by dsimp only; omega⟩
  obtain ⟨x, q1, q2⟩ := x5
  refine ⟨x, ?_, fun _ z => absurd (q2.trans hg) z⟩
  rw [Int.toNat_natCast]
  exact q1
theorem stk_ret1 {l : List ci} {t c c2 : Int} (h : vok N fc gc gv tk l t c b) (ht : t ≠ 0) (hc : c + 8 ≤ c2) : stk N fc gc gv tk (l ++ [(15, 0)]) bk lp gg c2 b := by
  obtain ⟨a1, a2, a3, a4, a5, -⟩ := h
  refine ⟨iokl2_app a1 ⟨Or.inl (by unfold iok two; dsimp only; omega), trivial⟩, by rw [List.length_append, List.length_singleton]; omega, by rw [enl_app, enl_one, en_x (by omega), List.length_append, List.length_singleton]; omega, fun S hS => dl_app (a4 S hS) (dl_1 (by dsimp only; omega)), fun o g hb d R h x1 x2 x3 _ x5 => ⟨1, ?_⟩⟩
  have w := a5 ht o g hb d R h x1 (by omega) x3
  rw [show h - 0 + 1 = h + 1 by omega] at w
  have t := tp_of (o := o) (g := g) (d := d) (p := 0) (h := h + 1) x1 (by omega) (by omega) x3
  refine cz_app w (cz_one ⟨c1_d t (by omega) x2, o, g, hb, d, R, rfl, ⟨fun z => by dsimp only at z; omega, fun z => by dsimp only at z; omega, fun _ => ?_⟩, by dsimp only; omega, by dsimp only; omega, by dsimp only; omega⟩)
  obtain ⟨x, q1, q2⟩ := x5
  refine ⟨x, ?_, fun _ _ => by omega⟩
  rw [Int.toNat_natCast]
  exact q1
theorem ga64 : ga 64 = 0 := by unfold ga; rw [if_pos rfl]
theorem dl_if {l : List ci} {S : List Nat} {op v : Int} (ho : op = 2 ∨ op = 3 ∨ op = 4) (hS : S.length < 100) (h : dl l (op.toNat :: S) = some (op.toNat :: S)) : dl ((op, v) :: (l ++ [(11, 0)])) S = some S := by
  rw [dl_p ho hS]
  refine dl_app h ?_
  rw [dl_go (b := S) (by unfold d1; rw [if_neg (by dsimp only; omega), if_neg (by dsimp only; omega), if_pos rfl])]
  rfl
theorem e_if {l0 l1 : List ci} : enl (l0 ++ ((4, 64) :: (l1 ++ [(11, 0)]))) = enl l0 ++ ([4, 64] ++ (enl l1 ++ [11])) := by
  have e : enl (l0 ++ ((4, 64) :: (l1 ++ [(11, 0)]))) = enl l0 ++ (enl [(4, 64)] ++ (enl l1 ++ enl [(11, 0)])) := by rw [← enl_app, ← enl_app, ← enl_app]; rfl
  rw [e]
  rfl
theorem stk_if {l0 l1 : List ci} {t c0 c1 c2 : Int} {b1 : Nat} (h0 : vok N fc gc gv tk l0 t c0 b) (ht : t ≠ 0) (h1 : stk N fc gc gv tk l1 (bk + 1) lp gg c1 b1) (hb1 : b1 + 1 ≤ b) (hc : c0 + c1 + 16 ≤ c2) : stk N fc gc gv tk (l0 ++ ((4, 64) :: (l1 ++ [(11, 0)]))) bk lp gg c2 b := by
  obtain ⟨a1, a2, a3, a4, a5, -⟩ := h0
  obtain ⟨b1_, b2, b3, b4, b5⟩ := h1
  refine ⟨iokl2_app a1 ⟨Or.inl (by unfold iok two; dsimp only; omega), iokl2_app b1_ ⟨Or.inl (by unfold iok two; dsimp only; omega), trivial⟩⟩, by rw [List.length_append, List.length_cons, List.length_append, List.length_singleton]; omega, by rw [e_if, List.length_append, List.length_append, List.length_append, show ([4, 64] : List Nat).length = 2 from rfl, show ([11] : List Nat).length = 1 from rfl]; omega, fun S hS => dl_app (a4 S hS) (dl_if (by omega) (by omega) (b4 _ (by rw [List.length_cons]; omega))), fun o g hb d R h x1 x2 x3 x4 x5 => ⟨d, ?_⟩⟩
  have hm := (tp_of (o := o) (g := g) (d := d) (p := 0) (h := h) x1 (by omega) (by omega) x3).2.2
  have w0 := a5 ht o g hb d R h x1 (by omega) x3
  rw [show h - 0 + 1 = h + 1 by omega] at w0
  obtain ⟨d1, w1⟩ := b5 4 64 h 0 ((o, g, hb, d) :: R) h (by omega) (by omega) hm (lpk_in x4) (bot_in x5)
  exact cz_app w0 (cz_cons ⟨c1_if (tp_of (p := 1) x1 (by omega) (by omega) x3) (by omega), lz_of (by dsimp only; omega)⟩ (cz_app w1 (cz_one ⟨c1_end (hb := h) (g := 64) (by rw [ga64]; omega) (by rw [ga64]; omega) (by omega) hm (fun _ => rfl), lz_of (by dsimp only; omega)⟩)))
theorem e_ife {l0 l1 l2 : List ci} : enl (l0 ++ ((4, 64) :: (l1 ++ ((5, 0) :: (l2 ++ [(11, 0)]))))) = enl l0 ++ ([4, 64] ++ (enl l1 ++ ([5] ++ (enl l2 ++ [11])))) := by
  have e : enl (l0 ++ ((4, 64) :: (l1 ++ ((5, 0) :: (l2 ++ [(11, 0)]))))) = enl l0 ++ (enl [(4, 64)] ++ (enl l1 ++ (enl [(5, 0)] ++ (enl l2 ++ enl [(11, 0)])))) := by rw [← enl_app, ← enl_app, ← enl_app, ← enl_app, ← enl_app]; rfl
  rw [e]
  rfl
theorem stk_ife {l0 l1 l2 : List ci} {t c0 c1 c2 c3 : Int} {b1 : Nat} (h0 : vok N fc gc gv tk l0 t c0 b) (ht : t ≠ 0) (h1 : stk N fc gc gv tk l1 (bk + 1) lp gg c1 b1) (h2 : stk N fc gc gv tk l2 (bk + 1) lp gg c2 b1) (hb1 : b1 + 1 ≤ b) (hc : c0 + c1 + c2 + 24 ≤ c3) : stk N fc gc gv tk (l0 ++ ((4, 64) :: (l1 ++ ((5, 0) :: (l2 ++ [(11, 0)]))))) bk lp gg c3 b := by
  obtain ⟨a1, a2, a3, a4, a5, -⟩ := h0
  obtain ⟨b1_, b2, b3, b4, b5⟩ := h1
  obtain ⟨d1_, d2, d3, d4, d5⟩ := h2
  refine ⟨iokl2_app a1 ⟨Or.inl (by unfold iok two; dsimp only; omega), iokl2_app b1_ ⟨Or.inl (by unfold iok two; dsimp only; omega), iokl2_app d1_ ⟨Or.inl (by unfold iok two; dsimp only; omega), trivial⟩⟩⟩, by rw [List.length_append, List.length_cons, List.length_append, List.length_cons, List.length_append, List.length_singleton]; omega, by rw [e_ife, List.length_append, List.length_append, List.length_append, List.length_append, List.length_append, show ([4, 64] : List Nat).length = 2 from rfl, show ([5] : List Nat).length = 1 from rfl, show ([11] : List Nat).length = 1 from rfl]; omega, fun S hS => ?_, fun o g hb d R h x1 x2 x3 x4 x5 => ⟨d, ?_⟩⟩
  · refine dl_app (a4 S hS) ?_
    rw [dl_p (by omega) (by omega)]
    refine dl_app (b4 (4 :: S) (by rw [List.length_cons]; omega)) ?_
    rw [dl_go (b := 5 :: S) (by unfold d1; rw [if_neg (by dsimp only; omega), if_pos rfl]; rfl)]
    refine dl_app (d4 (5 :: S) (by rw [List.length_cons]; omega)) ?_
    rw [dl_go (b := S) (by unfold d1; rw [if_neg (by dsimp only; omega), if_neg (by dsimp only; omega), if_pos rfl])]
    rfl
  · have hm := (tp_of (o := o) (g := g) (d := d) (p := 0) (h := h) x1 (by omega) (by omega) x3).2.2
    have w0 := a5 ht o g hb d R h x1 (by omega) x3
    rw [show h - 0 + 1 = h + 1 by omega] at w0
    obtain ⟨e1, w1⟩ := b5 4 64 h 0 ((o, g, hb, d) :: R) h (by omega) (by omega) hm (lpk_in x4) (bot_in x5)
    obtain ⟨e2, w2⟩ := d5 5 64 h 0 ((o, g, hb, d) :: R) h (by omega) (by omega) hm (lpk_in x4) (bot_in x5)
    exact cz_app w0 (cz_cons ⟨c1_if (tp_of (p := 1) x1 (by omega) (by omega) x3) (by omega), lz_of (by dsimp only; omega)⟩ (cz_app w1 (cz_cons ⟨c1_els (hb := h) (g := 64) (by rw [ga64]; omega) (by omega) hm, lz_of (by dsimp only; omega)⟩ (cz_app w2 (cz_one ⟨c1_end (hb := h) (g := 64) (by rw [ga64]; omega) (by rw [ga64]; omega) (by omega) hm (fun _ => rfl), lz_of (by dsimp only; omega)⟩)))))
theorem e_wh {l0 l1 : List ci} : enl ((2, 64) :: (3, 64) :: (l0 ++ ((69, 0) :: (13, 1) :: (l1 ++ [(12, 0), (11, 0), (11, 0)])))) = [2, 64, 3, 64] ++ (enl l0 ++ ([69, 13, 1] ++ (enl l1 ++ [12, 0, 11, 11]))) := by
  have q0 : enl ((2, 64) :: (3, 64) :: (l0 ++ ((69, 0) :: (13, 1) :: (l1 ++ [(12, 0), (11, 0), (11, 0)])))) = enl [(2, 64), (3, 64)] ++ (enl l0 ++ (enl [(69, 0), (13, 1)] ++ (enl l1 ++ enl [(12, 0), (11, 0), (11, 0)]))) := by rw [← enl_app, ← enl_app, ← enl_app, ← enl_app]; rfl
  rw [q0]
  have q1 : enl [(2, 64), (3, 64)] = [2, 64, 3, 64] := rfl
  have q2 : enl [(69, 0), (13, 1)] = [69, 13, 1] := by
    show en (69, 0) ++ (en (13, 1) ++ []) = _
    rw [en_x (by omega), en_u (by omega) (by omega) (by omega)]
    rfl
  have q3 : enl [(12, 0), (11, 0), (11, 0)] = [12, 0, 11, 11] := by
    show en (12, 0) ++ (en (11, 0) ++ (en (11, 0) ++ [])) = _
    rw [en_u (op := 12) (v := 0) (by omega) (by omega) (by omega), en_x (op := 11) (v := 0) (by omega)]
    rfl
  rw [q1, q2, q3]
theorem stk_while {l0 l1 : List ci} {t c0 c1 c2 : Int} {b1 : Nat} (h0 : vok N fc gc gv tk l0 t c0 b1) (ht : t ≠ 0) (h1 : stk N fc gc gv tk l1 (bk + 2) (bk + 2) gg c1 b1) (hb1 : b1 + 2 ≤ b) (hc : c0 + c1 + 56 ≤ c2) : stk N fc gc gv tk ((2, 64) :: (3, 64) :: (l0 ++ ((69, 0) :: (13, 1) :: (l1 ++ [(12, 0), (11, 0), (11, 0)])))) bk lp gg c2 b := by
  obtain ⟨a1, a2, a3, a4, a5, -⟩ := h0
  obtain ⟨b1_, b2, b3, b4, b5⟩ := h1
  have ik : ∀ x : ci, (x = (2, 64) ∨ x = (3, 64) ∨ x = (69, 0) ∨ x = (13, 1) ∨ x = (12, 0) ∨ x = (11, 0)) → iok2 x := by
    intro x hx
    rcases hx with rfl | rfl | rfl | rfl | rfl | rfl <;> exact Or.inl (by unfold iok two; dsimp only; omega)
  refine ⟨⟨ik _ (by simp), ik _ (by simp), iokl2_app a1 ⟨ik _ (by simp), ik _ (by simp), iokl2_app b1_ ⟨ik _ (by simp), ik _ (by simp), ik _ (by simp), trivial⟩⟩⟩, ?_, ?_, fun S hS => ?_, fun o g hb d R h x1 x2 x3 x4 x5 => ⟨d, ?_⟩⟩
  · simp only [List.length_append, List.length_cons, List.length_nil]
    omega
  · rw [e_wh]
    simp only [List.length_append, List.length_cons, List.length_nil]
    omega
  · show dl ((2, 64) :: ((3, 64) :: (l0 ++ ([(69, 0), (13, 1)] ++ (l1 ++ [(12, 0), (11, 0), (11, 0)]))))) S = some S
    rw [dl_p (by omega) (by omega), dl_p (by omega) (by rw [List.length_cons]; omega)]
    refine dl_app (a4 _ (by rw [List.length_cons, List.length_cons]; omega)) (dl_app (b := 3 :: 2 :: S) ?_ (dl_app (b4 _ (by rw [List.length_cons, List.length_cons]; omega)) ?_))
    · rw [dl_go (d1_0 (by dsimp only; omega)), dl_go (d1_0 (by dsimp only; omega))]
      rfl
    · rw [dl_go (d1_0 (by dsimp only; omega)), dl_go (b := 2 :: S) (by unfold d1; rw [if_neg (by dsimp only; omega), if_neg (by dsimp only; omega), if_pos rfl]), dl_go (b := S) (by unfold d1; rw [if_neg (by dsimp only; omega), if_neg (by dsimp only; omega), if_pos rfl])]
      rfl
  · have hm := (tp_of (o := o) (g := g) (d := d) (p := 0) (h := h) x1 (by omega) (by omega) x3).2.2
    have hm2 := (tp_of (o := 2) (g := 64) (d := 0) (p := 0) (hb := h) (h := h) (by omega) (by omega) (by omega) hm).2.2
    have w0 := a5 ht 3 64 h 0 ((2, 64, h, 0) :: (o, g, hb, d) :: R) h (by omega) (by omega) hm2
    rw [show h - 0 + 1 = h + 1 by omega] at w0
    obtain ⟨e1, w1⟩ := b5 3 64 h 0 ((2, 64, h, 0) :: (o, g, hb, d) :: R) h (by omega) (by omega) hm2 ⟨by have := x4.1; simp only [List.length_cons] at this ⊢; omega, fun _ => ⟨Nat.le_refl _, (3, 64, h, 0), (2, 64, h, 0), by rw [Nat.sub_self]; rfl, rfl, by rw [Nat.sub_self]; rfl, rfl⟩⟩ (bot_in (bot_in x5))
    have t1 := tp_of (o := 3) (g := 64) (d := 0) (p := 1) (hb := h) (h := h + 1) (R := (2, 64, h, 0) :: (o, g, hb, d) :: R) (by omega) (by omega) (by omega) hm2
    have k1 := c1_10 (N := N) (gv := gv) (tk := tk) (fc := fc) (gc := gc) (op := 13) (v := 1) t1 (by omega) (fun z => by omega) (fun z => by omega)
    rw [show h + 1 - 1 = h by omega] at k1
    have t2 := tp_of (o := 3) (g := 64) (d := e1) (p := 0) (hb := h) (h := h) (R := (2, 64, h, 0) :: (o, g, hb, d) :: R) (by omega) (by omega) (by omega) hm2
    refine cz_cons ⟨c1_blk (tp_of (p := 0) x1 (by omega) (by omega) x3) (by omega), lz_of (by dsimp only; omega)⟩ (cz_cons ⟨c1_blk (tp_of (p := 0) (by omega) (by omega) (by omega) hm) (by omega), lz_of (by dsimp only; omega)⟩ (cz_app w0 (cz_cons ⟨c1_11 t1 (by omega), lz_of (by dsimp only; omega)⟩ (cz_cons ⟨k1, 3, 64, h, 0, _, rfl, ⟨fun z => by dsimp only at z; omega, fun _ => ⟨(2, 64, h, 0), rfl, fun _ z => absurd rfl z⟩, fun z => by dsimp only at z; omega⟩, by dsimp only; omega, by dsimp only; omega, by dsimp only; omega⟩ (cz_app w1 (cz_cons ⟨c1_d t2 (by omega) (Int.le_refl _), 3, 64, h, e1, _, rfl, ⟨fun _ => ⟨(3, 64, h, e1), rfl, fun z => absurd rfl z⟩, fun z => by dsimp only at z; omega, fun z => by dsimp only at z; omega⟩, by dsimp only; omega, by dsimp only; omega, by dsimp only; omega⟩ (cz_cons ⟨c1_end (hb := h) (g := 64) (h2 := h) (by rw [ga64]; omega) (by rw [ga64]; omega) (by omega) hm2 (fun _ => rfl), lz_of (by dsimp only; omega)⟩ (cz_one ⟨c1_end (hb := h) (g := 64) (by rw [ga64]; omega) (by rw [ga64]; omega) (by omega) hm (fun _ => rfl), lz_of (by dsimp only; omega)⟩))))))))
end ST

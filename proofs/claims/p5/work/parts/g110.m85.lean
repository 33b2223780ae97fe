/-! the reference: the code of two sides -/
section TW
variable {N fc gc : Int} {gv tk : Nat → Int}
theorem e_ife2 {l0 l1 l2 : List ci} : enl (l0 ++ ((4, 127) :: (l1 ++ ((5, 0) :: (l2 ++ [(11, 0)]))))) = enl l0 ++ ([4, 127] ++ (enl l1 ++ ([5] ++ (enl l2 ++ [11])))) := by
  have e : enl (l0 ++ ((4, 127) :: (l1 ++ ((5, 0) :: (l2 ++ [(11, 0)]))))) = enl l0 ++ (enl [(4, 127)] ++ (enl l1 ++ (enl [(5, 0)] ++ (enl l2 ++ enl [(11, 0)])))) := by rw [← enl_app, ← enl_app, ← enl_app, ← enl_app, ← enl_app]; rfl
  rw [e]
  rfl
theorem vok_ife {l0 la lb : List ci} {t0 t c k0 : Int} {b b1 : Nat} (h0 : vok N fc gc gv tk l0 t0 k0 b) (ht0 : t0 ≠ 0) (ht : t ≠ 0) (a1 : iokl2 la) (c1 : iokl2 lb) (a4 : ∀ S : List Nat, S.length + b1 ≤ 100 → dl la S = some S) (c4 : ∀ S : List Nat, S.length + b1 ≤ 100 → dl lb S = some S) (a5 : Wv N fc gc gv tk la 0 1) (c5 : Wv N fc gc gv tk lb 0 1) (hb : b1 + 1 ≤ b)
    (hl : k0 + 8 * (la.length : Int) + 8 * (lb.length : Int) + 24 ≤ c) (he : k0 + 5 * ((enl la).length : Int) + 5 * ((enl lb).length : Int) + 20 ≤ c) : vok N fc gc gv tk (l0 ++ ((4, 127) :: (la ++ ((5, 0) :: (lb ++ [(11, 0)]))))) t c b := by
  obtain ⟨x1, x2, x3, x4, x5, -⟩ := h0
  refine vok_W (iokl2_app x1 ⟨Or.inl (by unfold iok two; dsimp only; (first | (apply Int.le_antisymm <;> omega) | omega)), iokl2_app a1 ⟨Or.inl (by unfold iok two; dsimp only; (first | (apply Int.le_antisymm <;> omega) | omega)), iokl2_app c1 ⟨Or.inl (by unfold iok two; dsimp only; (first | (apply Int.le_antisymm <;> omega) | omega)), trivial⟩⟩⟩) ?_ ?_ (fun S hS => ?_) ?_
  · simp only [List.length_append, List.length_cons, List.length_nil]
    (first | (apply Int.le_antisymm <;> omega) | omega)
  · rw [e_ife2]
    simp only [List.length_append, List.length_cons, List.length_nil]
    (first | (apply Int.le_antisymm <;> omega) | omega)
  · refine dl_app (x4 S hS) ?_
    rw [dl_p (by (first | (apply Int.le_antisymm <;> omega) | omega)) (by (first | (apply Int.le_antisymm <;> omega) | omega))]
    refine dl_app (a4 (4 :: S) (by rw [List.length_cons]; (first | (apply Int.le_antisymm <;> omega) | omega))) ?_
    rw [dl_go (b := 5 :: S) (by unfold d1; rw [if_neg (by dsimp only; (first | (apply Int.le_antisymm <;> omega) | omega)), if_pos rfl]; rfl)]
    refine dl_app (c4 (5 :: S) (by rw [List.length_cons]; (first | (apply Int.le_antisymm <;> omega) | omega))) ?_
    rw [dl_go (b := S) (by unfold d1; rw [if_neg (by dsimp only; (first | (apply Int.le_antisymm <;> omega) | omega)), if_neg (by dsimp only; (first | (apply Int.le_antisymm <;> omega) | omega)), if_pos rfl])]
    rfl
  · rw [(ga0_b t).2.2.1 ht]
    exact (x5 ht0).seq (Wv.ife a5 c5) (by (first | (apply Int.le_antisymm <;> omega) | omega)) (by (first | (apply Int.le_antisymm <;> omega) | omega)) (by (first | (apply Int.le_antisymm <;> omega) | omega))
theorem e_65 {v : Int} (h : v = 0 ∨ v = 1) : enl [((65 : Int), v)] = [65, v.toNat] := by
  rw [enl_one, en_c (Or.inl rfl)]
  rcases h with rfl | rfl <;> decide
/-- a value that is made 0 or 1 -/
def nz9 : List ci := [(65, 0), (71, 0)]
theorem e_nz : enl nz9 = [65, 0, 71] := by decide
theorem iok_nz : iokl2 nz9 := ⟨Or.inl (by unfold iok two; dsimp only; (first | (apply Int.le_antisymm <;> omega) | omega)), Or.inl (by unfold iok two; dsimp only; (first | (apply Int.le_antisymm <;> omega) | omega)), trivial⟩
theorem dl_nz {S : List Nat} : dl nz9 S = some S := by
  have q : dl ([((65 : Int), (0 : Int))] ++ [((71 : Int), (0 : Int))]) S = some S := dl_app (dl_1 (by dsimp only; (first | (apply Int.le_antisymm <;> omega) | omega))) (dl_1 (by dsimp only; (first | (apply Int.le_antisymm <;> omega) | omega)))
  exact q
theorem Wv_c {v : Int} : Wv N fc gc gv tk [((65 : Int), v)] 0 1 := Wv.w01 (by (first | (apply Int.le_antisymm <;> omega) | omega)) (fun z => by (first | (apply Int.le_antisymm <;> omega) | omega)) (fun z => by (first | (apply Int.le_antisymm <;> omega) | omega))
theorem Wv_nz {l : List ci} (h : Wv N fc gc gv tk l 0 1) : Wv N fc gc gv tk (l ++ nz9) 0 1 := by
  have w := (h.seq (Wv_c (v := 0)) (by (first | (apply Int.le_antisymm <;> omega) | omega)) (by (first | (apply Int.le_antisymm <;> omega) | omega)) (show (2 : Int) = 1 - 0 + 1 by (first | (apply Int.le_antisymm <;> omega) | omega))).seq (Wv.w21 (v := 0) (op := 71) (by unfold two; (first | (apply Int.le_antisymm <;> omega) | omega)) (by (first | (apply Int.le_antisymm <;> omega) | omega))) (by (first | (apply Int.le_antisymm <;> omega) | omega)) (by (first | (apply Int.le_antisymm <;> omega) | omega)) (show (1 : Int) = 2 - 2 + 1 by (first | (apply Int.le_antisymm <;> omega) | omega))
  have e : l ++ nz9 = (l ++ [((65 : Int), (0 : Int))]) ++ [((71 : Int), (0 : Int))] := by rw [List.append_assoc]; rfl
  rw [e]
  exact w
theorem vok_or {l0 l1 : List ci} {t0 t1 t c k0 k1 v : Int} {b b1 : Nat} {f : Bool} (h0 : vok N fc gc gv tk l0 t0 k0 b) (h1 : vok N fc gc gv tk l1 t1 k1 b1) (ht0 : t0 ≠ 0) (ht1 : t1 ≠ 0) (ht : t ≠ 0) (hv : v = 0 ∨ v = 1) (hb : b1 + 1 ≤ b) (hc : k0 + k1 + 48 ≤ c) :
    vok N fc gc gv tk (l0 ++ ((4, 127) :: ((if f then [((65 : Int), v)] else l1 ++ nz9) ++ ((5, 0) :: ((if f then l1 ++ nz9 else [((65 : Int), v)]) ++ [(11, 0)]))))) t c b := by
  have q1 : iokl2 [((65 : Int), v)] := ⟨Or.inl (by unfold iok two; dsimp only; (first | (apply Int.le_antisymm <;> omega) | omega)), trivial⟩
  have q2 : iokl2 (l1 ++ nz9) := iokl2_app h1.1 iok_nz
  have q3 : ∀ S : List Nat, S.length + b1 ≤ 100 → dl [((65 : Int), v)] S = some S := fun S _ => dl_1 (by dsimp only; (first | (apply Int.le_antisymm <;> omega) | omega))
  have q4 : ∀ S : List Nat, S.length + b1 ≤ 100 → dl (l1 ++ nz9) S = some S := fun S hS => dl_app (h1.2.2.2.1 S hS) dl_nz
  have q5 : Wv N fc gc gv tk (l1 ++ nz9) 0 1 := Wv_nz (h1.2.2.2.2.1 ht1)
  have e1 : (enl [((65 : Int), v)]).length = 2 := by rw [e_65 hv]; rfl
  have e2 : (enl (l1 ++ nz9)).length = (enl l1).length + 3 := by rw [enl_app, e_nz, List.length_append]; rfl
  have e3 : (l1 ++ nz9).length = l1.length + 2 := by rw [List.length_append]; rfl
  have a2 := h1.2.1
  have a3 := h1.2.2.1
  cases f with
  | true =>
    show vok N fc gc gv tk (l0 ++ ((4, 127) :: ([((65 : Int), v)] ++ ((5, 0) :: ((l1 ++ nz9) ++ [(11, 0)]))))) t c b
    exact vok_ife (b1 := b1) h0 ht0 ht q1 q2 q3 q4 Wv_c q5 hb (by rw [e3]; simp only [List.length_singleton]; (first | (apply Int.le_antisymm <;> omega) | omega)) (by rw [e1, e2]; (first | (apply Int.le_antisymm <;> omega) | omega))
  | false =>
    show vok N fc gc gv tk (l0 ++ ((4, 127) :: ((l1 ++ nz9) ++ ((5, 0) :: ([((65 : Int), v)] ++ [(11, 0)]))))) t c b
    exact vok_ife (b1 := b1) h0 ht0 ht q2 q1 q4 q3 q5 Wv_c hb (by rw [e3]; simp only [List.length_singleton]; (first | (apply Int.le_antisymm <;> omega) | omega)) (by rw [e1, e2]; (first | (apply Int.le_antisymm <;> omega) | omega))
theorem vok_two {l0 l1 : List ci} {t0 t1 t c k0 k1 o : Int} {b b1 : Nat} (h0 : vok N fc gc gv tk l0 t0 k0 b) (h1 : vok N fc gc gv tk l1 t1 k1 b1) (ht0 : t0 ≠ 0) (ht1 : t1 ≠ 0) (ht : t ≠ 0) (hb : b1 ≤ b) (hc : k0 + k1 + 8 ≤ c) (ho : two o) (hn : o ≠ 110 ∧ o ≠ 112) : vok N fc gc gv tk ((l0 ++ l1) ++ [(o, 0)]) t c b := by
  obtain ⟨x1, x2, x3, x4, x5, -⟩ := h0
  obtain ⟨y1, y2, y3, y4, y5, -⟩ := h1
  have ho2 := ho
  unfold two at ho2
  refine vok_W (iokl2_app (iokl2_app x1 y1) ⟨Or.inl (by unfold iok two; dsimp only; (first | (apply Int.le_antisymm <;> omega) | omega)), trivial⟩) (by simp only [List.length_append, List.length_singleton]; (first | (apply Int.le_antisymm <;> omega) | omega)) (by rw [enl_app, enl_app, enl_one, en_x (by (first | (apply Int.le_antisymm <;> omega) | omega)), List.length_append, List.length_append, List.length_singleton]; (first | (apply Int.le_antisymm <;> omega) | omega)) (fun S hS => dl_app (dl_app (x4 S hS) (y4 S (by (first | (apply Int.le_antisymm <;> omega) | omega)))) (dl_1 (by dsimp only; (first | (apply Int.le_antisymm <;> omega) | omega)))) ?_
  rw [(ga0_b t).2.2.1 ht]
  exact ((x5 ht0).seq (y5 ht1) (by (first | (apply Int.le_antisymm <;> omega) | omega)) (by (first | (apply Int.le_antisymm <;> omega) | omega)) (show (2 : Int) = 1 - 0 + 1 by (first | (apply Int.le_antisymm <;> omega) | omega))).seq (Wv.w21 ho hn) (by (first | (apply Int.le_antisymm <;> omega) | omega)) (by (first | (apply Int.le_antisymm <;> omega) | omega)) (by (first | (apply Int.le_antisymm <;> omega) | omega))
theorem e_two {l0 l1 : List ci} {o : Int} (ho : 69 ≤ o ∧ o ≤ 173) : enl ((l0 ++ l1) ++ [(o, 0)]) = enl l0 ++ (enl l1 ++ [o.toNat]) := by
  rw [enl_app, enl_app, enl_one, en_x (by (first | (apply Int.le_antisymm <;> omega) | omega)), List.append_assoc]
end TW
def sgs9 : List Int32 := litB.getD 52 []
def sp9 : Nat → Nat
  | 0 => 0
  | n + 1 => sp9 n + (if sgs9.getD n 0 &&& 255 = 32 then 1 else 0)
theorem sp9_b : ∀ p : Nat, p < 43 → sp9 p ≤ 17 ∧ (sgs9.getD p 0 = 32 → p < 42 → sp9 p ≤ 16) := by decide
theorem sp9_le {s : List Int32} {r : Int} (h : sub9 sgs9 s r) (h0 : s.getD 0 0 = 32) (hl : 2 ≤ s.length) : sp9 r.toNat ≤ 16 ∧ r ≤ 41 := by
  obtain ⟨h1, h2, h3⟩ := h
  have e : sgs9.length = 43 := by decide
  have q := h3 0 (by (first | (apply Int.le_antisymm <;> omega) | omega))
  rw [Nat.add_zero, h0] at q
  have b := (sp9_b r.toNat (by (first | (apply Int.le_antisymm <;> omega) | omega))).2 q (by (first | (apply Int.le_antisymm <;> omega) | omega))
  exact ⟨b, by (first | (apply Int.le_antisymm <;> omega) | omega)⟩
theorem oc8 {nb : List Int32} : 8 ≤ ocost nb := by unfold ocost; split <;> (first | (apply Int.le_antisymm <;> omega) | omega)
theorem oc48 {nb : List Int32} (h : nb = [124, 124] ∨ nb = [38, 38]) : ocost nb = 48 := by unfold ocost; rw [if_pos h]
theorem ixb {nb : List Int32} {r : Int} (h : r = -1 ∨ sub9 sgs9 (32 :: (nb ++ [32])) r) : -1 ≤ r ∧ r ≤ 41 ∧ sp9 r.toNat ≤ 16 := by
  rcases h with rfl | h
  · exact ⟨by (first | (apply Int.le_antisymm <;> omega) | omega), by (first | (apply Int.le_antisymm <;> omega) | omega), by decide⟩
  · have q := sp9_le h rfl (by simp only [List.length_cons, List.length_append, List.length_nil]; (first | (apply Int.le_antisymm <;> omega) | omega))
    exact ⟨by have := h.1; (first | (apply Int.le_antisymm <;> omega) | omega), q.2, q.1⟩
theorem sp9_m {a b : Nat} (h : a ≤ b) : sp9 a ≤ sp9 b := by
  induction b with
  | zero => rw [show a = 0 by (first | (apply Int.le_antisymm <;> omega) | omega)]; exact Nat.le_refl _
  | succ b ih =>
    by_cases q : a = b + 1
    · rw [q]; exact Nat.le_refl _
    · have := ih (by (first | (apply Int.le_antisymm <;> omega) | omega))
      show sp9 a ≤ sp9 b + _
      (first | (apply Int.le_antisymm <;> omega) | omega)
theorem q650 : ((if (127 : Int32).toInt = 127 then 65 else 66) :: sleb 10 (0 : Int64).toInt) = [65, 0] := by decide
theorem q651 : ((if (127 : Int32).toInt = 127 then 65 else 66) :: sleb 10 (1 : Int64).toInt) = [65, 1] := by decide
def nm4 (L : List Nat) (f : Nat → va_E) (cpb : ClassId) (a sr : Nat) (nb : List Int32) : Prop := (∃ (op pl : Int32) (v : Int64) (t : Int32) (p : Nat) (cnt ix gl : Int32), nP f a op pl (.ref sr) v t p cnt ix gl) ∧ strP L f cpb sr nb
theorem str_inj {L : List Nat} {f : Nat → va_E} {cpb : ClassId} {s : Nat} {nb nb2 : List Int32} (h : strP L f cpb s nb) (h2 : strP L f cpb s nb2) : nb = nb2 := by
  obtain ⟨-, v, x, z, g, a1, -, a2, a3, -⟩ := h
  obtain ⟨-, v2, x2, z2, g2, b1, -, b2, b3, -⟩ := h2
  rw [a1] at b1
  injection b1 with b1
  injection b1 with _ b1
  injection b1 with b1 _
  injection b1 with b1
  subst b1
  rw [a2] at b2
  injection b2 with b2
  injection b2 with _ b2
  injection b2 with e1 b2
  injection b2 with b2
  subst b2
  exact lst_eq9 (n := nb.length) rfl (by (first | (apply Int.le_antisymm <;> omega) | omega)) (fun j hj => by rw [← a3 j (by (first | (apply Int.le_antisymm <;> omega) | omega)), b3 j (by (first | (apply Int.le_antisymm <;> omega) | omega))])
theorem nm4_inj {L : List Nat} {f : Nat → va_E} {cpb : ClassId} {a sr sr2 : Nat} {nb nb2 : List Int32} {op pl : Int32} {v : Int64} {t : Int32} {p : Nat} {cnt ix gl : Int32} (h : nm4 L f cpb a sr nb) (h2 : nP f a op pl (.ref sr2) v t p cnt ix gl) (h3 : strP L f cpb sr2 nb2) : sr = sr2 ∧ nb = nb2 := by
  obtain ⟨⟨o, q, w, u, r, c, i, g, e⟩, hs⟩ := h
  unfold nP at e h2
  rw [e] at h2
  injection h2 with h2
  injection h2 with _ h2
  injection h2 with _ h2
  injection h2 with _ h2
  injection h2 with h2 _
  injection h2 with h2
  subst h2
  exact ⟨rfl, str_inj hs h3⟩
theorem bn_in9 {x : Int32} (h : 0 ≤ x.toInt ∧ x.toInt ≤ 255) : bn x = x.toInt.toNat := by
  have e := bn_in (x := x) (m := x.toInt) rfl (by (first | (apply Int.le_antisymm <;> omega) | omega)) (by (first | (apply Int.le_antisymm <;> omega) | omega))
  rw [e]
theorem e_or {l0 l1 : List ci} : enl (l0 ++ ((4, 127) :: ((if true then [((65 : Int), (1 : Int))] else l1 ++ nz9) ++ ((5, 0) :: ((if true then l1 ++ nz9 else [((65 : Int), (1 : Int))]) ++ [(11, 0)]))))) = enl l0 ++ ([4, 127] ++ ([65, 1] ++ ([5] ++ ((enl l1 ++ [65, 0, 71]) ++ [11])))) := by
  show enl (l0 ++ ((4, 127) :: ([((65 : Int), (1 : Int))] ++ ((5, 0) :: ((l1 ++ nz9) ++ [(11, 0)]))))) = _
  rw [e_ife2, e_65 (Or.inr rfl), enl_app, e_nz]
  rfl
theorem e_and {l0 l1 : List ci} : enl (l0 ++ ((4, 127) :: ((if false then [((65 : Int), (0 : Int))] else l1 ++ nz9) ++ ((5, 0) :: ((if false then l1 ++ nz9 else [((65 : Int), (0 : Int))]) ++ [(11, 0)]))))) = enl l0 ++ ([4, 127] ++ ((enl l1 ++ [65, 0, 71]) ++ ([5] ++ ([65, 0] ++ [11])))) := by
  show enl (l0 ++ ((4, 127) :: ((l1 ++ nz9) ++ ((5, 0) :: ([((65 : Int), (0 : Int))] ++ [(11, 0)]))))) = _
  rw [e_ife2, e_65 (Or.inl rfl), enl_app, e_nz]
  rfl

/-! the reference reads what it wrote: code -/
def iokl2 : List ci → Prop
  | [] => True
  | x :: l => iok2 x ∧ iokl2 l
theorem iokl2_app {b : List ci} : ∀ {a : List ci}, iokl2 a → iokl2 b → iokl2 (a ++ b) := by
  intro a
  induction a with
  | nil => exact fun _ h => h
  | cons x a ih => exact fun h1 h2 => ⟨h1.1, ih h1.2 h2⟩
theorem iok2_v {o v : Int} (h : iok2 (o, v)) (c : ¬ opI o) (c2 : ¬ opM o) (c3 : o ≠ 65 ∧ o ≠ 66 ∧ o ≠ 2 ∧ o ≠ 3 ∧ o ≠ 4) : v = 0 := by
  unfold iok2 iok two at h
  unfold opI at c
  unfold opM at c2
  dsimp only at h
  (first | (apply Int.le_antisymm <;> omega) | omega)
/-- k instructions are read, more are to come -/
def cdJ (gax gop gel go : Nat → Int32) (gva : Nat → Int64) (l : List ci) (n0 k a oc : Nat) (n E : Int) : Prop :=
  ∃ (D T : List ci) (st : List Nat), l = D ++ T ∧ D.length = k ∧ bq gax a (enl (T ++ [(11, 0)])) ∧ (a : Int) + ((enl (T ++ [(11, 0)])).length : Int) = E ∧ dl T st = some [] ∧ oS gop gel go oc n st ∧ mtc gop gva n0 D ∧ iokl2 T
theorem cdJ_begin {gax gop gel go : Nat → Int32} {gva : Nat → Int64} {l : List ci} {n0 a : Nat} {n E : Int} (h1 : bq gax a (enl (l ++ [(11, 0)]))) (h2 : (a : Int) + ((enl (l ++ [(11, 0)])).length : Int) = E) (h3 : dl l [] = some []) (h4 : iokl2 l) : cdJ gax gop gel go gva l n0 0 a 0 n E :=
  ⟨[], l, [], rfl, rfl, h1, h2, h3, rfl, fun i x hx => by simp at hx, h4⟩
theorem cd_hdJ {gax gop gel go : Nat → Int32} {gva : Nat → Int64} {l : List ci} {n0 k a : Nat} {oc : Int32} {n E : Int} (hoc : 0 ≤ oc.toInt) (h : cdJ gax gop gel go gva l n0 k a oc.toNatClampNeg n E) : ∃ (o v : Int), iok2 (o, v) ∧ bq gax a (en (o, v)) ∧ (a : Int) + ((en (o, v)).length : Int) ≤ E ∧ (o = 2 ∨ o = 3 ∨ o = 4 → oc.toInt < 100) ∧ (o = 5 → 0 < oc.toInt ∧ (gop (go (oc.toNatClampNeg - 1)).toNatClampNeg).toInt = 4 ∧ (gel (go (oc.toNatClampNeg - 1)).toNatClampNeg).toInt < 0) ∧ (∀ j : Nat, (j : Int) < oc.toInt → 0 ≤ (go j).toInt ∧ (go j).toInt < n) ∧ k ≤ l.length ∧
    ((k < l.length ∧ (o = 11 → 0 < oc.toInt)) ∨ (k = l.length ∧ o = 11 ∧ v = 0 ∧ oc.toInt = 0 ∧ (a : Int) + ((en (o, v)).length : Int) = E)) ∧
    (∀ (cl o2 lc r oc2 lc2 : Int32) (gpt glb gop2 gpt2 gel2 glb2 go2 : Nat → Int32) (gva2 : Nat → Int64), 0 ≤ cl.toInt → oc.toInt ≤ 100 → cl.toInt = n → cl.toNatClampNeg = n0 + k → o2.toInt = o → (r.toInt = 0 ↔ o = 11 ∧ oc.toInt = 0) → (r.toInt = 0 ∨ r.toInt = 1) → rstep cl o2 oc lc r oc2 lc2 gop gpt gel glb go gop2 gpt2 gel2 glb2 go2 gva gva2 → (o ≠ 65 → o ≠ 66 → ¬ (o = 40 ∨ o = 41 ∨ o = 44 ∨ o = 45 ∨ o = 54 ∨ o = 55 ∨ o = 58) → (gva2 cl.toNatClampNeg).toInt = v) →
      (r.toInt = 1 → cdJ gax gop2 gel2 go2 gva2 l n0 (k + 1) (a + (en (o, v)).length) oc2.toNatClampNeg (n + 1) E) ∧ (r.toInt = 0 → k = l.length ∧ mtc gop2 gva2 n0 (l ++ [(11, 0)]) ∧ (a : Int) + ((en (o, v)).length : Int) = E)) := by
  obtain ⟨D, T, st, e1, e2, e3, e4, e5, e6, e7, e8⟩ := h
  have zo := i32_clamp (x := oc) hoc
  have hlen := oS_len e6
  have hgo := oS_go e6
  cases T with
  | nil =>
    have est : st = [] := Option.some.inj e5
    subst est
    have o0 : oc.toInt = 0 := by rw [List.length_nil] at hlen; (first | (apply Int.le_antisymm <;> omega) | omega)
    rw [List.nil_append, enl_one] at e3 e4
    rw [List.append_nil] at e1
    refine ⟨11, 0, Or.inl (by simp [iok, two]), e3, by (first | (apply Int.le_antisymm <;> omega) | omega), fun z => by (first | (apply Int.le_antisymm <;> omega) | omega), fun z => by (first | (apply Int.le_antisymm <;> omega) | omega), fun j hj => by (first | (apply Int.le_antisymm <;> omega) | omega), by rw [e1]; (first | (apply Int.le_antisymm <;> omega) | omega), Or.inr ⟨by rw [e1]; exact e2.symm, rfl, rfl, o0, e4⟩, ?_⟩
    intro cl o2 lc r oc2 lc2 gpt glb gop2 gpt2 gel2 glb2 go2 gva2 z1 z2 z3 z4 z5 z6 z7 z8 z9
    have r0 : r.toInt = 0 := z6.mpr ⟨rfl, o0⟩
    refine ⟨fun z => by (first | (apply Int.le_antisymm <;> omega) | omega), fun _ => ⟨by rw [e1]; exact e2.symm, ?_, e4⟩⟩
    rw [e1]
    exact mtc_snoc e7 (by rw [e2]; exact z4) (rs_va z8) (by rw [z8.1, pk_us]; exact z5) z9
  | cons x T =>
    obtain ⟨o, v⟩ := x
    obtain ⟨st2, d1e, d2e⟩ := dl_hd e5
    have e3' : bq gax a (en (o, v) ++ enl (T ++ [(11, 0)])) := e3
    obtain ⟨b1, b2⟩ := bq_app e3'
    have e4' : (a : Int) + (((en (o, v)).length : Int) + ((enl (T ++ [(11, 0)])).length : Int)) = E := by
      have : (enl ((o, v) :: T ++ [(11, 0)])).length = (en (o, v)).length + (enl (T ++ [(11, 0)])).length := List.length_append
      (first | (apply Int.le_antisymm <;> omega) | omega)
    have hk : k < l.length := by rw [e1, List.length_append, List.length_cons]; (first | (apply Int.le_antisymm <;> omega) | omega)
    have q5 : o = 5 → 0 < oc.toInt ∧ (gop (go (oc.toNatClampNeg - 1)).toNatClampNeg).toInt = 4 ∧ (gel (go (oc.toNatClampNeg - 1)).toNatClampNeg).toInt < 0 := by
      intro z
      subst z
      unfold d1 at d1e
      rw [if_neg (by dsimp only; (first | (apply Int.le_antisymm <;> omega) | omega)), if_pos rfl] at d1e
      split at d1e
      · rename_i r'
        obtain ⟨m, em⟩ : ∃ m, oc.toNatClampNeg = m + 1 := ⟨oc.toNatClampNeg - 1, by rw [List.length_cons] at hlen; (first | (apply Int.le_antisymm <;> omega) | omega)⟩
        rw [em] at e6
        obtain ⟨x, r2, f1, f2, f3, f4⟩ := e6
        injection f1 with f5 f6
        rw [show oc.toNatClampNeg - 1 = m from by (first | (apply Int.le_antisymm <;> omega) | omega)]
        exact ⟨by (first | (apply Int.le_antisymm <;> omega) | omega), f3 f5.symm⟩
      · cases d1e
    have q11 : o = 11 → 0 < oc.toInt := by
      intro z
      subst z
      unfold d1 at d1e
      rw [if_neg (by dsimp only; (first | (apply Int.le_antisymm <;> omega) | omega)), if_neg (by dsimp only; (first | (apply Int.le_antisymm <;> omega) | omega)), if_pos rfl] at d1e
      split at d1e
      · rw [List.length_cons] at hlen; (first | (apply Int.le_antisymm <;> omega) | omega)
      · cases d1e
    have q2 : o = 2 ∨ o = 3 ∨ o = 4 → oc.toInt < 100 := by
      intro z
      unfold d1 at d1e
      rw [if_pos z] at d1e
      split at d1e
      · (first | (apply Int.le_antisymm <;> omega) | omega)
      · cases d1e
    refine ⟨o, v, e8.1, b1, by (first | (apply Int.le_antisymm <;> omega) | omega), q2, q5, fun j hj => hgo j (by (first | (apply Int.le_antisymm <;> omega) | omega)), by (first | (apply Int.le_antisymm <;> omega) | omega), Or.inl ⟨hk, q11⟩, ?_⟩
    intro cl o2 lc r oc2 lc2 gpt glb gop2 gpt2 gel2 glb2 go2 gva2 z1 z2 z3 z4 z5 z6 z7 z8 z9
    have n14 : o ≠ 14 := (iok_n e8.1).2.2.1
    refine ⟨fun z => ?_, fun z => ?_⟩
    · subst z3
      exact ⟨D ++ [(o, v)], T, st2, by rw [e1, List.append_assoc]; rfl, by rw [List.length_append, List.length_singleton, e2], b2, by (first | (apply Int.le_antisymm <;> omega) | omega), d2e, oS_step z1 ⟨hoc, z2⟩ e6 z5 d1e z n14 z8, mtc_snoc e7 (by rw [e2]; exact z4) (rs_va z8) (by rw [z8.1, pk_us]; exact z5) z9, e8.2⟩
    · have w := z6.mp z
      have := q11 w.1
      (first | (apply Int.le_antisymm <;> omega) | omega)
section CK3
variable {b en el gop gpt gel glb go bk : Nat → Int32} {gva : Nat → Int64} {pos : Nat → Nat} {a : Nat} {n oc lc : Int32} {cu : Int}
theorem ck_immx (h : ckI b en el a n oc lc gop gpt gel glb go gva pos bk cu) {o n2 : Int32} {c2 : Nat} (hn2 : n2.toInt = n.toInt + 1) (hcu : cu < (c2 : Int)) (hc2 : n.toInt < 5000) (h14 : o.toInt ≠ 14) (hoc : 0 ≤ oc.toInt ∧ oc.toInt ≤ 100)
    (hO : opO b o.toInt (pos n.toNatClampNeg + 1)) (hb1 : (b (pos n.toNatClampNeg) &&& 255).toInt = o.toInt) (hx : c2 = nxo b o.toInt (pos n.toNatClampNeg + 1)) :
    ∃ (gpt2 gel2 : Nat → Int32) (gva2 : Nat → Int64), rstep n o oc lc 1 oc lc gop gpt gel glb go (upd gop n.toNatClampNeg o) gpt2 gel2 glb go gva gva2 ∧ (opI o.toInt → (gva2 n.toNatClampNeg).toInt = (uF b 5 (pos n.toNatClampNeg + 1) 0 0).toInt) ∧ (¬ opI o.toInt → (gva2 n.toNatClampNeg).toInt = 0) ∧
      ckI b en el a n2 oc lc (upd gop n.toNatClampNeg o) gpt2 gel2 glb go gva2 (va_up pos (n.toNatClampNeg + 1) c2) bk (c2 : Int) := by
  obtain ⟨n3, n5, n11⟩ := opO_not hO
  have hh := h
  obtain ⟨h1, ⟨a1, a2, a3, a4, a5⟩, h3, h4⟩ := hh
  have p1 : va_up pos (n.toNatClampNeg + 1) c2 n.toNatClampNeg = pos n.toNatClampNeg := va_up_ne _ _ (by (first | (apply Int.le_antisymm <;> omega) | omega))
  have hD0 : ∀ {gpt2 glb2 : Nat → Int32} {gva2 : Nat → Int64}, (opI o.toInt → (gva2 n.toNatClampNeg).toInt = (uF b 5 (pos n.toNatClampNeg + 1) 0 0).toInt) → (o.toInt = 14 → (gpt2 n.toNatClampNeg).toInt = (uF b 5 (pos n.toNatClampNeg + 1) 0 0).toInt ∧ ∀ k : Nat, (k : Int) ≤ (gpt2 n.toNatClampNeg).toInt → (glb2 ((gva2 n.toNatClampNeg).toInt.toNat + k)).toInt = (uF b 5 (tbl b (nF b 5 (pos n.toNatClampNeg + 1)) k) 0 0).toInt) →
      lkD b (va_up pos (n.toNatClampNeg + 1) c2) (upd gop n.toNatClampNeg o) gpt2 glb2 gva2 n.toNatClampNeg := by
    intro gpt2 glb2 gva2 x1 x2
    unfold lkD
    rw [p1, pk_us]
    exact ⟨hb1, x1, fun z => absurd z n3, x2⟩
  have kp : ∀ {v : Int64}, ∀ j, j ≠ n.toNatClampNeg → upd gpt n.toNatClampNeg 0 j = gpt j ∧ upd gel n.toNatClampNeg (-1) j = gel j ∧ vp_updL (vp_updL gva n.toNatClampNeg 0) n.toNatClampNeg v j = gva j := fun j e => ⟨pk_un e, pk_un e, by rw [uL_un e, uL_un e]⟩
  have hO2 := hO
  unfold opO at hO2
  rcases hO2 with ⟨q1, q2, q3⟩ | ⟨q1, q2, q3, q4⟩ | q1 | q1 | q1 | q1 | q1 | q1
  · have st : rstep n o oc lc 1 oc lc gop gpt gel glb go (upd gop n.toNatClampNeg o) (upd gpt n.toNatClampNeg 0) (upd gel n.toNatClampNeg (-1)) glb go gva (vp_updL (vp_updL gva n.toNatClampNeg 0) n.toNatClampNeg (uF b 5 (pos n.toNatClampNeg + 1) 0 0)) :=
      ⟨rfl, Or.inr (Or.inr (Or.inr (Or.inl ⟨by unfold opI at q1; (first | (apply Int.le_antisymm <;> omega) | omega), by decide, rfl, rfl, rfl, rfl, rfl, rfl, _, q2, q3, rfl⟩)))⟩
    exact ⟨_, _, _, st, fun _ => by rw [uLs], fun z => absurd q1 z, ck_plain h hn2 hcu hc2 hoc st n3 kp (fun _ _ => rfl) ⟨a3, by (first | (apply Int.le_antisymm <;> omega) | omega)⟩ (hD0 (fun _ => by rw [uLs]) (fun z => by unfold opI at q1; (first | (apply Int.le_antisymm <;> omega) | omega))) hx⟩
  · exact absurd q1 h14
  · have st : rstep n o oc lc 1 oc lc gop gpt gel glb go (upd gop n.toNatClampNeg o) (upd (upd gpt n.toNatClampNeg 0) n.toNatClampNeg 0) (upd gel n.toNatClampNeg (-1)) glb go gva (vp_updL (vp_updL gva n.toNatClampNeg 0) n.toNatClampNeg 0) :=
      ⟨rfl, Or.inr (Or.inr (Or.inr (Or.inr (Or.inr (Or.inr (Or.inr ⟨by unfold opM at q1; (first | (apply Int.le_antisymm <;> omega) | omega), by decide, rfl, rfl, rfl, rfl, rfl, 0, 0, by decide, by decide, by decide, rfl, rfl⟩))))))⟩
    exact ⟨_, _, _, st, fun z => absurd z (by unfold opI; unfold opM at q1; (first | (apply Int.le_antisymm <;> omega) | omega)), fun _ => by rw [uLs]; decide, ck_plain h hn2 hcu hc2 hoc st n3 (fun j e => ⟨by rw [pk_un e, pk_un e], pk_un e, by rw [uL_un e, uL_un e]⟩) (fun _ _ => rfl) ⟨a3, by (first | (apply Int.le_antisymm <;> omega) | omega)⟩ (hD0 (fun z => by unfold opI at z; unfold opM at q1; (first | (apply Int.le_antisymm <;> omega) | omega)) (fun z => by unfold opM at q1; (first | (apply Int.le_antisymm <;> omega) | omega))) hx⟩
  all_goals first
    | (have st : rstep n o oc lc 1 oc lc gop gpt gel glb go (upd gop n.toNatClampNeg o) (upd gpt n.toNatClampNeg 0) (upd gel n.toNatClampNeg (-1)) glb go gva (vp_updL gva n.toNatClampNeg 0) :=
        ⟨rfl, Or.inr (Or.inr (Or.inr (Or.inr (Or.inr (Or.inl ⟨by (try unfold opP at q1); (first | (apply Int.le_antisymm <;> omega) | omega), by decide, rfl, rfl, rfl, rfl, rfl, rfl, rfl⟩)))))⟩
       exact ⟨_, _, _, st, fun z => absurd z (by unfold opI; (try unfold opP at q1); (first | (apply Int.le_antisymm <;> omega) | omega)), fun _ => by rw [uLs]; decide, ck_plain h hn2 hcu hc2 hoc st n3 (fun j e => ⟨pk_un e, pk_un e, uL_un e⟩) (fun _ _ => rfl) ⟨a3, by (first | (apply Int.le_antisymm <;> omega) | omega)⟩ (hD0 (fun z => by unfold opI at z; (try unfold opP at q1); (first | (apply Int.le_antisymm <;> omega) | omega)) (fun z => by (try unfold opP at q1); (first | (apply Int.le_antisymm <;> omega) | omega))) hx⟩)
    | (have st : rstep n o oc lc 1 oc lc gop gpt gel glb go (upd gop n.toNatClampNeg o) (upd gpt n.toNatClampNeg 0) (upd gel n.toNatClampNeg (-1)) glb go gva (vp_updL (vp_updL gva n.toNatClampNeg 0) n.toNatClampNeg 0) :=
        ⟨rfl, Or.inr (Or.inr (Or.inr (Or.inr (Or.inr (Or.inr (Or.inl ⟨by (first | (apply Int.le_antisymm <;> omega) | omega), by decide, rfl, rfl, rfl, rfl, rfl, rfl, 0, rfl⟩))))))⟩
       exact ⟨_, _, _, st, fun z => absurd z (by unfold opI; (first | (apply Int.le_antisymm <;> omega) | omega)), fun _ => by rw [uLs]; decide, ck_plain h hn2 hcu hc2 hoc st n3 (fun j e => ⟨pk_un e, pk_un e, by rw [uL_un e, uL_un e]⟩) (fun _ _ => rfl) ⟨a3, by (first | (apply Int.le_antisymm <;> omega) | omega)⟩ (hD0 (fun z => by unfold opI at z; (first | (apply Int.le_antisymm <;> omega) | omega)) (fun z => by (first | (apply Int.le_antisymm <;> omega) | omega))) hx⟩)
end CK3

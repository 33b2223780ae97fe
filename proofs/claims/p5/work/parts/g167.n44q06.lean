/-! p5: the class: an instruction; what the tables hold of those read so far (RI), what is open (obI) -/
abbrev zIn : Type := Nat × Nat × List Nat
def iC (op pt la : Nat → Int32) (va : Nat → Int64) (lc : Int) (k : Nat) (x : zIn) : Prop := (op k).toInt = (x.1 : Int) ∧ ((zidx x.1 = true ∨ (2 ≤ x.1 ∧ x.1 ≤ 4)) → (va k).toInt = (x.2.1 : Int)) ∧ (zacc x.1 = true → (pt k).toInt = (x.2.1 : Int)) ∧ (x.1 = 14 → (pt k).toInt = (x.2.1 : Int) ∧ x.2.2.length = x.2.1 + 1 ∧ 0 ≤ (va k).toInt ∧ (va k).toInt + x.2.2.length ≤ lc ∧ ∀ (j y : Nat), x.2.2[j]? = some y → (la ((va k).toInt.toNat + j)).toInt = (y : Int))
def RI (op pt la : Nat → Int32) (va : Nat → Int64) (lc : Int) (l : List zIn) : Prop := ∀ (k : Nat) (x : zIn), l[k]? = some x → iC op pt la va lc k x
theorem zacc_g {b : Nat} (h : zacc b = true) : 40 ≤ b := by
  unfold zacc at h
  simp only [Bool.or_eq_true, decide_eq_true_eq] at h
  (first | (apply Int.le_antisymm <;> omega) | omega)
theorem ri_app {op pt la op2 pt2 la2 : Nat → Int32} {va va2 : Nat → Int64} {lc lc2 : Int} {l : List zIn} {x : zIn} (h : RI op pt la va lc l) (hop : ∀ k, k < l.length → op2 k = op k) (hva : ∀ k, k < l.length → va2 k = va k) (hpt : ∀ k, k < l.length → pt2 k = pt k ∨ (2 ≤ (op k).toInt ∧ (op k).toInt ≤ 5)) (hla : ∀ j : Nat, (j : Int) < lc → la2 j = la j) (hlc : lc ≤ lc2) (hx : iC op2 pt2 la2 va2 lc2 l.length x) : RI op2 pt2 la2 va2 lc2 (l ++ [x]) := by
  intro k y hk
  by_cases e : k < l.length
  · rw [List.getElem?_append_left e] at hk
    obtain ⟨h1, h2, h3, h4⟩ := h k y hk
    unfold iC
    rw [hop k e, hva k e]
    refine ⟨h1, h2, fun z => ?_, fun z => ?_⟩
    · have := zacc_g z
      rw [(hpt k e).resolve_right (by (first | (apply Int.le_antisymm <;> omega) | omega))]
      exact h3 z
    · obtain ⟨q1, q2, q3, q4, q5⟩ := h4 z
      rw [(hpt k e).resolve_right (by (first | (apply Int.le_antisymm <;> omega) | omega))]
      refine ⟨q1, q2, q3, by (first | (apply Int.le_antisymm <;> omega) | omega), fun j w hj => ?_⟩
      have := (List.getElem?_eq_some_iff.mp hj).1
      rw [hla _ (by (first | (apply Int.le_antisymm <;> omega) | omega))]
      exact q5 j w hj
  · have hk2 : k = l.length := by
      have := (List.getElem?_eq_some_iff.mp hk).1
      rw [List.length_append, List.length_singleton] at this
      (first | (apply Int.le_antisymm <;> omega) | omega)
    rw [hk2, List.getElem?_append_right (Nat.le_refl _), Nat.sub_self] at hk
    cases hk
    rw [hk2]
    exact hx
/-- what is open: below bd, innermost first -/
def obI (go op el : Nat → Int32) (N : Nat) : Nat → List Nat → Prop
  | _, [] => True
  | bd, x :: st => 0 ≤ (go st.length).toInt ∧ (go st.length).toNatClampNeg < bd ∧ (2 ≤ (op (go st.length).toNatClampNeg).toInt ∧ (op (go st.length).toNatClampNeg).toInt ≤ 4) ∧ (x = if (op (go st.length).toNatClampNeg).toInt = 4 ∧ (el (go st.length).toNatClampNeg).toInt < 0 then 1 else 0) ∧ (0 ≤ (el (go st.length).toNatClampNeg).toInt → (el (go st.length).toNatClampNeg).toNatClampNeg < N ∧ (op (el (go st.length).toNatClampNeg).toNatClampNeg).toInt = 5) ∧ obI go op el N (go st.length).toNatClampNeg st
theorem ob_up {go op el go2 op2 el2 : Nat → Int32} {N N2 : Nat} : ∀ {st : List Nat} {bd bd2 : Nat}, obI go op el N bd st → bd ≤ bd2 → N ≤ N2 → bd ≤ N → (∀ j, j < st.length → go2 j = go j) → (∀ k, k < N → op2 k = op k) → (∀ k, k < bd → el2 k = el k) → obI go2 op2 el2 N2 bd2 st := by
  intro st
  induction st with
  | nil => intros; trivial
  | cons x st ih =>
    intro bd bd2 h hb hN hbN hg ho he
    obtain ⟨h1, h2, h3, h4, h5, h6⟩ := h
    unfold obI
    rw [hg st.length (by rw [List.length_cons]; (first | (apply Int.le_antisymm <;> omega) | omega)), ho _ (show (go st.length).toNatClampNeg < N by (first | (apply Int.le_antisymm <;> omega) | omega)), he _ h2]
    refine ⟨h1, by (first | (apply Int.le_antisymm <;> omega) | omega), h3, h4, fun z => ?_, ih h6 (Nat.le_refl _) hN (by (first | (apply Int.le_antisymm <;> omega) | omega)) (fun j hj => hg j (by rw [List.length_cons]; (first | (apply Int.le_antisymm <;> omega) | omega))) ho (fun k hk => he k (by (first | (apply Int.le_antisymm <;> omega) | omega)))⟩
    obtain ⟨q1, q2⟩ := h5 z
    rw [ho _ q1]
    exact ⟨by (first | (apply Int.le_antisymm <;> omega) | omega), q2⟩
theorem ob_go {go op el : Nat → Int32} {N : Nat} : ∀ {st : List Nat} {bd : Nat}, obI go op el N bd st → ∀ j : Nat, j < st.length → 0 ≤ (go j).toInt ∧ (go j).toNatClampNeg < bd := by
  intro st
  induction st with
  | nil => intro bd _ j hj; exact absurd hj (by rw [List.length_nil]; (first | (apply Int.le_antisymm <;> omega) | omega))
  | cons x st ih =>
    intro bd h j hj
    obtain ⟨h1, h2, h3, h4, h5, h6⟩ := h
    rw [List.length_cons] at hj
    by_cases e : j = st.length
    · rw [e]; exact ⟨h1, h2⟩
    · have := ih h6 j (by (first | (apply Int.le_antisymm <;> omega) | omega))
      exact ⟨this.1, by (first | (apply Int.le_antisymm <;> omega) | omega)⟩
/-- what an instruction leaves -/
def riz (f : Nat → Int32) (L a : Nat) (st : List Nat) (l : List zIn) (s2 a2 cl2 oc2 lc2 r : Int32) (op pt el la go : Nat → Int32) (va : Nat → Int64) : Prop := (s2.toInt = 1 ∧ ∃ (x : zIn) (so : Option (List Nat)), zK1 f L st a = some (x, so, a2.toNatClampNeg) ∧ cl2.toInt = l.length + 1 ∧ RI op pt la va lc2.toInt (l ++ [x]) ∧ (∀ j, (el j).toInt < 5000) ∧ (0 ≤ lc2.toInt ∧ lc2.toInt ≤ a2.toInt) ∧ cl2.toInt ≤ a2.toInt ∧ (match so with | some s => r.toInt = 1 ∧ (s.length : Int) = oc2.toInt ∧ obI go op el (l.length + 1) (l.length + 1) s | none => r.toInt = 0)) ∨ (s2.toInt = 0 ∧ zK1 f L st a = none)
theorem vpuL (g : Nat → Int64) (k : Nat) (v : Int64) : vp_updL g k v k = v := if_pos rfl
theorem vpnL {g : Nat → Int64} {k j : Nat} {v : Int64} (h : j ≠ k) : vp_updL g k v j = g j := if_neg h
section RIZ
variable {f op pt el la go go2 pt2 el2 la2 : Nat → Int32} {va va2 : Nat → Int64} {L a : Nat} {st : List Nat} {l : List zIn} {o s s2 a0 a1 a2 cl cl2 oc oc2 lc lc2 r lim : Int32}
/-- what is known where the switch begins -/
def rib (f op pt el la go : Nat → Int32) (va : Nat → Int64) (st : List Nat) (l : List zIn) (o a0 a1 cl cl2 oc lc lim : Int32) : Prop := RI op pt la va lc.toInt l ∧ obI go op el l.length l.length st ∧ (st.length : Int) = oc.toInt ∧ (l.length : Int) = cl.toInt ∧ cl2.toInt = cl.toInt + 1 ∧ (0 ≤ lc.toInt ∧ lc.toInt ≤ a0.toInt) ∧ cl.toInt ≤ a0.toInt ∧ 0 ≤ a0.toInt ∧ a0.toInt < lim.toInt ∧ a1.toInt = a0.toInt + 1 ∧ o.toInt = (bn (f a0.toNatClampNeg) : Int) ∧ (∀ j, (el j).toInt < 5000) ∧ lim.toInt ≤ 2000
theorem rib_n (h : rib f op pt el la go va st l o a0 a1 cl cl2 oc lc lim) : cl.toNatClampNeg = l.length := by
  obtain ⟨-, -, -, h4, -⟩ := h
  have := i32_clamp (x := cl) (by (first | (apply Int.le_antisymm <;> omega) | omega))
  (first | (apply Int.le_antisymm <;> omega) | omega)
/-- an instruction that leaves what is open as it is -/
theorem ri_pl (h : rib f op pt el la go va st l o a0 a1 cl cl2 oc lc lim) (hs : s2.toInt = 1) {x : Nat × List Nat} (hq : zQ f lim.toNatClampNeg (bn (f a0.toNatClampNeg)) a1.toNatClampNeg = some (x, a2.toNatClampNeg)) (hb : ¬ (2 ≤ o.toInt ∧ o.toInt ≤ 4) ∧ o.toInt ≠ 5 ∧ o.toInt ≠ 11) (hr : r.toInt = 1) (ha : a1.toInt ≤ a2.toInt)
    (hva : ∀ k, k < l.length → va2 k = va k) (hpt : ∀ k, k < l.length → pt2 k = pt k) (hla : ∀ j : Nat, (j : Int) < lc.toInt → la2 j = la j) (hlc : lc.toInt ≤ lc2.toInt ∧ lc2.toInt ≤ a2.toInt) (hx : iC (upd op cl.toNatClampNeg o) pt2 la2 va2 lc2.toInt l.length (bn (f a0.toNatClampNeg), x.1, x.2)) :
    riz f lim.toNatClampNeg a0.toNatClampNeg st l s2 a2 cl2 oc lc2 r (upd op cl.toNatClampNeg o) pt2 (upd el cl.toNatClampNeg (-1)) la2 go va2 := by
  have en := rib_n h
  obtain ⟨h1, h2, h3, h4, h5, h6, h7, h8, h9, h10, h11, h12, h13⟩ := h
  have k0 := i32_clamp h8
  have k1 := i32_clamp (x := lim) (by (first | (apply Int.le_antisymm <;> omega) | omega))
  have k2 := i32_clamp (x := a1) (by (first | (apply Int.le_antisymm <;> omega) | omega))
  rw [en] at hx ⊢
  refine Or.inl ⟨hs, (bn (f a0.toNatClampNeg), x.1, x.2), some st, ?_, by (first | (apply Int.le_antisymm <;> omega) | omega), ri_app h1 (fun k hk => pk_un (by (first | (apply Int.le_antisymm <;> omega) | omega))) hva (fun k hk => Or.inl (hpt k hk)) hla hlc.1 hx, upd_lt h12 (by decide), by (first | (apply Int.le_antisymm <;> omega) | omega), by (first | (apply Int.le_antisymm <;> omega) | omega), hr, h3, ob_up h2 (by (first | (apply Int.le_antisymm <;> omega) | omega)) (by (first | (apply Int.le_antisymm <;> omega) | omega)) (by (first | (apply Int.le_antisymm <;> omega) | omega)) (fun _ _ => rfl) (fun k hk => pk_un (by (first | (apply Int.le_antisymm <;> omega) | omega))) (fun k hk => pk_un (by (first | (apply Int.le_antisymm <;> omega) | omega)))⟩
  unfold zK1
  rw [if_pos (by (first | (apply Int.le_antisymm <;> omega) | omega)), if_neg (by (first | (apply Int.le_antisymm <;> omega) | omega)), if_neg (by (first | (apply Int.le_antisymm <;> omega) | omega)), if_neg (by (first | (apply Int.le_antisymm <;> omega) | omega)), show a0.toNatClampNeg + 1 = a1.toNatClampNeg by (first | (apply Int.le_antisymm <;> omega) | omega), hq]
theorem ri_pn (h : rib f op pt el la go va st l o a0 a1 cl cl2 oc lc lim) (hq : zQ f lim.toNatClampNeg (bn (f a0.toNatClampNeg)) a1.toNatClampNeg = none) (hb : ¬ (2 ≤ o.toInt ∧ o.toInt ≤ 4) ∧ o.toInt ≠ 5 ∧ o.toInt ≠ 11) : zK1 f lim.toNatClampNeg st a0.toNatClampNeg = none := by
  obtain ⟨h1, h2, h3, h4, h5, h6, h7, h8, h9, h10, h11, h12, h13⟩ := h
  have k0 := i32_clamp h8
  have k1 := i32_clamp (x := lim) (by (first | (apply Int.le_antisymm <;> omega) | omega))
  have k2 := i32_clamp (x := a1) (by (first | (apply Int.le_antisymm <;> omega) | omega))
  unfold zK1
  rw [if_pos (by (first | (apply Int.le_antisymm <;> omega) | omega)), if_neg (by (first | (apply Int.le_antisymm <;> omega) | omega)), if_neg (by (first | (apply Int.le_antisymm <;> omega) | omega)), if_neg (by (first | (apply Int.le_antisymm <;> omega) | omega)), show a0.toNatClampNeg + 1 = a1.toNatClampNeg by (first | (apply Int.le_antisymm <;> omega) | omega), hq]
theorem rib_b (h : rib f op pt el la go va st l o a0 a1 cl cl2 oc lc lim) : bn (f a0.toNatClampNeg) = o.toInt.toNat ∧ 0 ≤ o.toInt := by
  obtain ⟨h1, h2, h3, h4, h5, h6, h7, h8, h9, h10, h11, h12, h13⟩ := h
  (first | (apply Int.le_antisymm <;> omega) | omega)
/-- nothing of it stands in the tables but its op -/
theorem iC_0 {b : Nat} {lcx : Int} (hop : (op l.length).toInt = (b : Int)) (h1 : ¬ zidx b = true) (h2 : ¬ (2 ≤ b ∧ b ≤ 4)) (h3 : ¬ zacc b = true) (h4 : b ≠ 14) : iC op pt la va lcx l.length (b, 0, []) := ⟨hop, fun z => absurd z (fun y => y.elim h1 h2), fun z => absurd z h3, fun z => absurd z h4⟩
theorem zidx_f {b : Int} (h0 : 0 ≤ b) (h : ¬ (b = 12 ∨ b = 13 ∨ b = 16 ∨ b = 32 ∨ b = 33 ∨ b = 34 ∨ b = 35 ∨ b = 36)) : ¬ zidx b.toNat = true := fun z => h ((zidx_i h0).mp z)
theorem zacc_f {b : Int} (h0 : 0 ≤ b) (h : ¬ (b = 44 ∨ b = 45 ∨ b = 58 ∨ b = 40 ∨ b = 54 ∨ b = 41 ∨ b = 55)) : ¬ zacc b.toNat = true := fun z => h ((zacc_i h0).mp z)
theorem ri_idx {v : Int64} (h : rib f op pt el la go va st l o a0 a1 cl cl2 oc lc lim) (h1 : s.toInt = 1) (hz : rz (zM f lim.toNatClampNeg 2147483647 a1.toNatClampNeg) s s2 a2 v.toInt) (ho : o.toInt = 12 ∨ o.toInt = 13 ∨ o.toInt = 16 ∨ o.toInt = 32 ∨ o.toInt = 33 ∨ o.toInt = 34 ∨ o.toInt = 35 ∨ o.toInt = 36) (ha : a1.toInt ≤ a2.toInt) (hr : r.toInt = 1) :
    riz f lim.toNatClampNeg a0.toNatClampNeg st l s2 a2 cl2 oc lc r (upd op cl.toNatClampNeg o) (upd pt cl.toNatClampNeg 0) (upd el cl.toNatClampNeg (-1)) la go (vp_updL (vp_updL va cl.toNatClampNeg 0) cl.toNatClampNeg v) := by
  have eb := rib_b h
  have en := rib_n h
  have hi := (zidx_i eb.2).mpr ho
  rcases hz with ⟨u1, u2, u3, u4⟩ | ⟨u1, u2⟩
  · refine ri_pl h u1 (x := (v.toInt.toNat, [])) ?_ (by (first | (apply Int.le_antisymm <;> omega) | omega)) hr ha (fun k hk => by rw [vpnL (by (first | (apply Int.le_antisymm <;> omega) | omega)), vpnL (by (first | (apply Int.le_antisymm <;> omega) | omega))]) (fun k hk => pk_un (by (first | (apply Int.le_antisymm <;> omega) | omega))) (fun _ _ => rfl) ⟨Int.le_refl _, by have := h.2.2.2.2.2.1; have := h.2.2.2.2.2.2.2.2.2.1; (first | (apply Int.le_antisymm <;> omega) | omega)⟩ ?_
    · unfold zQ
      rw [eb.1, if_pos hi, u4]
    · rw [en, eb.1]
      refine ⟨by rw [pk_us]; dsimp only; (first | (apply Int.le_antisymm <;> omega) | omega), fun _ => by rw [vpuL]; dsimp only; (first | (apply Int.le_antisymm <;> omega) | omega), fun z => absurd z (zacc_f eb.2 (by (first | (apply Int.le_antisymm <;> omega) | omega))), fun z => absurd z (by dsimp only; (first | (apply Int.le_antisymm <;> omega) | omega))⟩
  · exact Or.inr ⟨u1, ri_pn h (by unfold zQ; rw [eb.1, if_pos hi, u2 h1]) (by (first | (apply Int.le_antisymm <;> omega) | omega))⟩
theorem ri_exp (h : rib f op pt el la go va st l o a0 a1 cl cl2 oc lc lim) (h1 : s.toInt = 1) (hz : rp (zE f lim.toNatClampNeg 0 a1.toNatClampNeg) s s2 a2) (ho : o.toInt = 63 ∨ o.toInt = 64) (ha : a1.toInt ≤ a2.toInt) (hr : r.toInt = 1) :
    riz f lim.toNatClampNeg a0.toNatClampNeg st l s2 a2 cl2 oc lc r (upd op cl.toNatClampNeg o) (upd pt cl.toNatClampNeg 0) (upd el cl.toNatClampNeg (-1)) la go (vp_updL va cl.toNatClampNeg 0) := by
  have eb := rib_b h
  have en := rib_n h
  have hi := zidx_f eb.2 (show ¬ (o.toInt = 12 ∨ o.toInt = 13 ∨ o.toInt = 16 ∨ o.toInt = 32 ∨ o.toInt = 33 ∨ o.toInt = 34 ∨ o.toInt = 35 ∨ o.toInt = 36) by (first | (apply Int.le_antisymm <;> omega) | omega))
  have hc := zacc_f eb.2 (show ¬ (o.toInt = 44 ∨ o.toInt = 45 ∨ o.toInt = 58 ∨ o.toInt = 40 ∨ o.toInt = 54 ∨ o.toInt = 41 ∨ o.toInt = 55) by (first | (apply Int.le_antisymm <;> omega) | omega))
  rcases hz with ⟨u1, u2, u4⟩ | ⟨u1, u2⟩
  · refine ri_pl h u1 (x := (0, [])) ?_ (by (first | (apply Int.le_antisymm <;> omega) | omega)) hr ha (fun k hk => vpnL (by (first | (apply Int.le_antisymm <;> omega) | omega))) (fun k hk => pk_un (by (first | (apply Int.le_antisymm <;> omega) | omega))) (fun _ _ => rfl) ⟨Int.le_refl _, by have := h.2.2.2.2.2.1; have := h.2.2.2.2.2.2.2.2.2.1; (first | (apply Int.le_antisymm <;> omega) | omega)⟩ ?_
    · unfold zQ
      rw [eb.1, if_neg hi, if_neg (by (first | (apply Int.le_antisymm <;> omega) | omega)), if_neg hc, if_pos (by (first | (apply Int.le_antisymm <;> omega) | omega)), u4]
    · rw [en, eb.1]
      exact iC_0 (by rw [pk_us]; (first | (apply Int.le_antisymm <;> omega) | omega)) hi (by (first | (apply Int.le_antisymm <;> omega) | omega)) hc (by (first | (apply Int.le_antisymm <;> omega) | omega))
  · exact Or.inr ⟨u1, ri_pn h (by unfold zQ; rw [eb.1, if_neg hi, if_neg (by (first | (apply Int.le_antisymm <;> omega) | omega)), if_neg hc, if_pos (by (first | (apply Int.le_antisymm <;> omega) | omega)), u2 h1]) (by (first | (apply Int.le_antisymm <;> omega) | omega))⟩
theorem ri_sig {v : Int64} {b : Int} (h : rib f op pt el la go va st l o a0 a1 cl cl2 oc lc lim) (h1 : s.toInt = 1) (hz : rp (zSg f lim.toNatClampNeg b a1.toNatClampNeg) s s2 a2) (ho : (o.toInt = 65 ∧ b = 32) ∨ (o.toInt = 66 ∧ b = 64)) (ha : a1.toInt ≤ a2.toInt) (hr : r.toInt = 1) :
    riz f lim.toNatClampNeg a0.toNatClampNeg st l s2 a2 cl2 oc lc r (upd op cl.toNatClampNeg o) (upd pt cl.toNatClampNeg 0) (upd el cl.toNatClampNeg (-1)) la go (vp_updL (vp_updL va cl.toNatClampNeg 0) cl.toNatClampNeg v) := by
  have eb := rib_b h
  have en := rib_n h
  have hi := zidx_f eb.2 (show ¬ (o.toInt = 12 ∨ o.toInt = 13 ∨ o.toInt = 16 ∨ o.toInt = 32 ∨ o.toInt = 33 ∨ o.toInt = 34 ∨ o.toInt = 35 ∨ o.toInt = 36) by (first | (apply Int.le_antisymm <;> omega) | omega))
  have hc := zacc_f eb.2 (show ¬ (o.toInt = 44 ∨ o.toInt = 45 ∨ o.toInt = 58 ∨ o.toInt = 40 ∨ o.toInt = 54 ∨ o.toInt = 41 ∨ o.toInt = 55) by (first | (apply Int.le_antisymm <;> omega) | omega))
  have hq : zQ f lim.toNatClampNeg (bn (f a0.toNatClampNeg)) a1.toNatClampNeg = match zSg f lim.toNatClampNeg b a1.toNatClampNeg with | some c => some ((0, []), c) | none => none := by
    unfold zQ zSg
    rw [eb.1, if_neg hi, if_neg (by (first | (apply Int.le_antisymm <;> omega) | omega)), if_neg hc, if_neg (by (first | (apply Int.le_antisymm <;> omega) | omega))]
    rcases ho with ⟨o1, o2⟩ | ⟨o1, o2⟩
    · rw [if_pos (by (first | (apply Int.le_antisymm <;> omega) | omega)), o2, if_pos rfl]
      cases zSn f lim.toNatClampNeg zq32 5 a1.toNatClampNeg <;> rfl
    · rw [if_neg (by (first | (apply Int.le_antisymm <;> omega) | omega)), if_pos (by (first | (apply Int.le_antisymm <;> omega) | omega)), o2, if_neg (by decide)]
      cases zSn f lim.toNatClampNeg zq64 10 a1.toNatClampNeg <;> rfl
  rcases hz with ⟨u1, u2, u4⟩ | ⟨u1, u2⟩
  · refine ri_pl h u1 (x := (0, [])) (by rw [hq, u4]) (by (first | (apply Int.le_antisymm <;> omega) | omega)) hr ha (fun k hk => by rw [vpnL (by (first | (apply Int.le_antisymm <;> omega) | omega)), vpnL (by (first | (apply Int.le_antisymm <;> omega) | omega))]) (fun k hk => pk_un (by (first | (apply Int.le_antisymm <;> omega) | omega))) (fun _ _ => rfl) ⟨Int.le_refl _, by have := h.2.2.2.2.2.1; have := h.2.2.2.2.2.2.2.2.2.1; (first | (apply Int.le_antisymm <;> omega) | omega)⟩ ?_
    rw [en, eb.1]
    exact iC_0 (by rw [pk_us]; (first | (apply Int.le_antisymm <;> omega) | omega)) hi (by (first | (apply Int.le_antisymm <;> omega) | omega)) hc (by (first | (apply Int.le_antisymm <;> omega) | omega))
  · exact Or.inr ⟨u1, ri_pn h (by rw [hq, u2 h1]) (by (first | (apply Int.le_antisymm <;> omega) | omega))⟩
theorem ri_oth (h : rib f op pt el la go va st l o a0 a1 cl cl2 oc lc lim) (hz : roz f lim.toNatClampNeg a1.toNatClampNeg cl.toNatClampNeg o.toInt s2 a2 (vp_updL va cl.toNatClampNeg 0) va2 (upd pt cl.toNatClampNeg 0) pt2) (ho : ¬ (2 ≤ o.toInt ∧ o.toInt ≤ 5) ∧ o.toInt ≠ 11 ∧ o.toInt ≠ 14 ∧ ¬ (o.toInt = 12 ∨ o.toInt = 13 ∨ o.toInt = 16 ∨ o.toInt = 32 ∨ o.toInt = 33 ∨ o.toInt = 34 ∨ o.toInt = 35 ∨ o.toInt = 36) ∧ ¬ (63 ≤ o.toInt ∧ o.toInt ≤ 66)) (ha : a1.toInt ≤ a2.toInt) (hr : r.toInt = 1) :
    riz f lim.toNatClampNeg a0.toNatClampNeg st l s2 a2 cl2 oc lc r (upd op cl.toNatClampNeg o) pt2 (upd el cl.toNatClampNeg (-1)) la go va2 := by
  have eb := rib_b h
  have en := rib_n h
  have hi := zidx_f eb.2 ho.2.2.2.1
  have hl : lc.toInt ≤ lc.toInt ∧ lc.toInt ≤ a2.toInt := ⟨Int.le_refl _, by have := h.2.2.2.2.2.1; have := h.2.2.2.2.2.2.2.2.2.1; (first | (apply Int.le_antisymm <;> omega) | omega)⟩
  rcases hz with ⟨c1, ⟨u1, v, u2, ⟨w, u3, u4⟩, x, u5⟩ | ⟨u1, u2⟩⟩ | ⟨c1, rfl, rfl, u3, ⟨u1, u2⟩ | ⟨u1, u2⟩⟩
  · have hq : zQ f lim.toNatClampNeg (bn (f a0.toNatClampNeg)) a1.toNatClampNeg = some ((v, []), a2.toNatClampNeg) := by
      unfold zQ
      rw [eb.1, if_neg hi, if_neg (by (first | (apply Int.le_antisymm <;> omega) | omega)), if_pos c1, u2]
    rw [u4, u5]
    refine ri_pl h u1 (x := (v, [])) hq (by (first | (apply Int.le_antisymm <;> omega) | omega)) hr ha (fun k hk => by rw [vpnL (by (first | (apply Int.le_antisymm <;> omega) | omega)), vpnL (by (first | (apply Int.le_antisymm <;> omega) | omega))]) (fun k hk => by rw [pk_un (by (first | (apply Int.le_antisymm <;> omega) | omega)), pk_un (by (first | (apply Int.le_antisymm <;> omega) | omega))]) (fun _ _ => rfl) hl ?_
    rw [en, eb.1]
    exact ⟨by rw [pk_us]; dsimp only; (first | (apply Int.le_antisymm <;> omega) | omega), fun z => absurd z (fun y => y.elim hi (fun q => by dsimp only at q; (first | (apply Int.le_antisymm <;> omega) | omega))), fun _ => by rw [pk_us]; exact u3, fun z => absurd z (by dsimp only; (first | (apply Int.le_antisymm <;> omega) | omega))⟩
  · exact Or.inr ⟨u1, ri_pn h (by unfold zQ; rw [eb.1, if_neg hi, if_neg (by (first | (apply Int.le_antisymm <;> omega) | omega)), if_pos c1, u2]) (by (first | (apply Int.le_antisymm <;> omega) | omega))⟩
  · have hc : ¬ zacc o.toInt.toNat = true := by rw [c1]; decide
    have hq : zQ f lim.toNatClampNeg (bn (f a0.toNatClampNeg)) a1.toNatClampNeg = some ((0, []), a2.toNatClampNeg) := by
      unfold zQ
      rw [eb.1, if_neg hi, if_neg (by (first | (apply Int.le_antisymm <;> omega) | omega)), if_neg hc, if_neg (by (first | (apply Int.le_antisymm <;> omega) | omega)), if_neg (by (first | (apply Int.le_antisymm <;> omega) | omega)), if_neg (by (first | (apply Int.le_antisymm <;> omega) | omega)), if_pos u2, u3]
    refine ri_pl h u1 (x := (0, [])) hq (by (first | (apply Int.le_antisymm <;> omega) | omega)) hr ha (fun k hk => vpnL (by (first | (apply Int.le_antisymm <;> omega) | omega))) (fun k hk => pk_un (by (first | (apply Int.le_antisymm <;> omega) | omega))) (fun _ _ => rfl) hl ?_
    rw [en, eb.1]
    exact iC_0 (by rw [pk_us]; (first | (apply Int.le_antisymm <;> omega) | omega)) hi (by (first | (apply Int.le_antisymm <;> omega) | omega)) hc (by (first | (apply Int.le_antisymm <;> omega) | omega))
  · have hc : ¬ zacc o.toInt.toNat = true := by rw [c1]; decide
    exact Or.inr ⟨u1, ri_pn h (by unfold zQ; rw [eb.1, if_neg hi, if_neg (by (first | (apply Int.le_antisymm <;> omega) | omega)), if_neg hc, if_neg (by (first | (apply Int.le_antisymm <;> omega) | omega)), if_neg (by (first | (apply Int.le_antisymm <;> omega) | omega)), if_neg (by (first | (apply Int.le_antisymm <;> omega) | omega)), if_neg (by rw [u2]; decide)]) (by (first | (apply Int.le_antisymm <;> omega) | omega))⟩
theorem ri_tab (h : rib f op pt el la go va st l o a0 a1 cl cl2 oc lc lim) (hz : tbz f lim.toNatClampNeg a1.toNatClampNeg cl.toNatClampNeg lc s2 a2 lc2 (vp_updL va cl.toNatClampNeg 0) va2 (upd pt cl.toNatClampNeg 0) pt2 la la2) (hla : ∀ j : Nat, (j : Int) < lc.toInt → la2 j = la j) (ho : o.toInt = 14) (ha : a1.toInt ≤ a2.toInt) (hr : r.toInt = 1) :
    riz f lim.toNatClampNeg a0.toNatClampNeg st l s2 a2 cl2 oc lc2 r (upd op cl.toNatClampNeg o) pt2 (upd el cl.toNatClampNeg (-1)) la2 go va2 := by
  have eb := rib_b h
  have en := rib_n h
  have hi := zidx_f eb.2 (show ¬ (o.toInt = 12 ∨ o.toInt = 13 ∨ o.toInt = 16 ∨ o.toInt = 32 ∨ o.toInt = 33 ∨ o.toInt = 34 ∨ o.toInt = 35 ∨ o.toInt = 36) by (first | (apply Int.le_antisymm <;> omega) | omega))
  have e14 : o.toInt.toNat = 14 := by (first | (apply Int.le_antisymm <;> omega) | omega)
  rcases hz with ⟨u1, n, ll, u2, u3, ⟨v, u4, u5⟩, ⟨w, u6, u7⟩, u8⟩ | ⟨u1, u2⟩
  · have hq : zQ f lim.toNatClampNeg (bn (f a0.toNatClampNeg)) a1.toNatClampNeg = some ((n, ll), a2.toNatClampNeg) := by
      unfold zQ
      rw [eb.1, if_neg hi, if_pos e14, u2]
    have k1 := i32_clamp (x := a1) (by have := h.2.2.2.2.2.2.2.1; have := h.2.2.2.2.2.2.2.2.2.1; (first | (apply Int.le_antisymm <;> omega) | omega))
    have k2 := i32_clamp (x := a2) (by have := h.2.2.2.2.2.2.2.1; have := h.2.2.2.2.2.2.2.2.2.1; (first | (apply Int.le_antisymm <;> omega) | omega))
    have k3 := i32_clamp (x := lc) h.2.2.2.2.2.1.1
    have h9 := h.2.2.2.2.2.1
    have h10 := h.2.2.2.2.2.2.2.2.2.1
    have hll : ll.length = n + 1 ∧ a1.toNatClampNeg + n + 2 ≤ a2.toNatClampNeg := by
      unfold zTb at u2
      split at u2
      · rename_i n2 c e1
        split at u2
        · rename_i l2 d e2
          cases u2
          have q1 := zM_le e1
          have q2 := zA_le _ _ _ e2
          rw [List.length_nil] at q2
          (first | (apply Int.le_antisymm <;> omega) | omega)
        · cases u2
      · cases u2
    rw [u5, u7]
    refine ri_pl h u1 (x := (n, ll)) hq (by (first | (apply Int.le_antisymm <;> omega) | omega)) hr ha (fun k hk => by rw [vpnL (by (first | (apply Int.le_antisymm <;> omega) | omega)), vpnL (by (first | (apply Int.le_antisymm <;> omega) | omega))]) (fun k hk => by rw [pk_un (by (first | (apply Int.le_antisymm <;> omega) | omega)), pk_un (by (first | (apply Int.le_antisymm <;> omega) | omega))]) hla ⟨by (first | (apply Int.le_antisymm <;> omega) | omega), by (first | (apply Int.le_antisymm <;> omega) | omega)⟩ ?_
    rw [en, eb.1]
    refine ⟨by rw [pk_us]; dsimp only; (first | (apply Int.le_antisymm <;> omega) | omega), fun z => absurd z (fun y => y.elim hi (fun q => by dsimp only at q; (first | (apply Int.le_antisymm <;> omega) | omega))), fun z => absurd (zacc_g z) (by dsimp only; (first | (apply Int.le_antisymm <;> omega) | omega)), fun _ => ?_⟩
    dsimp only
    rw [pk_us, vpuL, u4, show lc.toInt.toNat = lc.toNatClampNeg by (first | (apply Int.le_antisymm <;> omega) | omega)]
    exact ⟨u6, hll.1, by (first | (apply Int.le_antisymm <;> omega) | omega), by (first | (apply Int.le_antisymm <;> omega) | omega), u8⟩
  · exact Or.inr ⟨u1, ri_pn h (by unfold zQ; rw [eb.1, if_neg hi, if_pos e14, u2]) (by (first | (apply Int.le_antisymm <;> omega) | omega))⟩
theorem ri_blk (h : rib f op pt el la go va st l o a0 a1 cl cl2 oc lc lim) (hz : obz f a1 lim oc s2 a2 oc2 cl go go2 (vp_updL va cl.toNatClampNeg 0) va2) (ho : o.toInt = 2 ∨ o.toInt = 3 ∨ o.toInt = 4) (hr : r.toInt = 1) (hc5 : cl.toInt < 5000) :
    riz f lim.toNatClampNeg a0.toNatClampNeg st l s2 a2 cl2 oc2 lc r (upd op cl.toNatClampNeg o) (upd pt cl.toNatClampNeg 0) (upd el cl.toNatClampNeg (-1)) la go2 va2 := by
  have eb := rib_b h
  have en := rib_n h
  obtain ⟨h1, h2, h3, h4, h5, h6, h7, h8, h9, h10, h11, h12, h13⟩ := h
  have k0 := i32_clamp h8
  have k1 := i32_clamp (x := lim) (by (first | (apply Int.le_antisymm <;> omega) | omega))
  have k2 := i32_clamp (x := a1) (by (first | (apply Int.le_antisymm <;> omega) | omega))
  have ko := i32_clamp (x := oc) (by (first | (apply Int.le_antisymm <;> omega) | omega))
  have kc := i32_clamp (x := cl) (by (first | (apply Int.le_antisymm <;> omega) | omega))
  rcases hz with ⟨u1, u2, u3, u4, u5, u6, u7, v, u8, u9⟩ | ⟨u1, u2⟩
  · have k3 := i32_clamp (x := a2) (by (first | (apply Int.le_antisymm <;> omega) | omega))
    refine Or.inl ⟨u1, (bn (f a0.toNatClampNeg), bn (f a1.toNatClampNeg), []), some ((if bn (f a0.toNatClampNeg) = 4 then 1 else 0) :: st), ?_, by (first | (apply Int.le_antisymm <;> omega) | omega), ri_app h1 (fun k hk => pk_un (by (first | (apply Int.le_antisymm <;> omega) | omega))) (fun k hk => by rw [u9, vpnL (by (first | (apply Int.le_antisymm <;> omega) | omega)), vpnL (by (first | (apply Int.le_antisymm <;> omega) | omega))]) (fun k hk => Or.inl (pk_un (by (first | (apply Int.le_antisymm <;> omega) | omega)))) (fun _ _ => rfl) (Int.le_refl _) ?_, upd_lt h12 (by decide), by (first | (apply Int.le_antisymm <;> omega) | omega), by (first | (apply Int.le_antisymm <;> omega) | omega), hr, by rw [List.length_cons]; (first | (apply Int.le_antisymm <;> omega) | omega), ?_⟩
    · unfold zK1
      rw [if_pos (by (first | (apply Int.le_antisymm <;> omega) | omega)), if_pos (by (first | (apply Int.le_antisymm <;> omega) | omega)), show a0.toNatClampNeg + 1 = a1.toNatClampNeg by (first | (apply Int.le_antisymm <;> omega) | omega), if_pos ⟨by (first | (apply Int.le_antisymm <;> omega) | omega), by (first | (apply Int.le_antisymm <;> omega) | omega), by (first | (apply Int.le_antisymm <;> omega) | omega)⟩, show a0.toNatClampNeg + 2 = a2.toNatClampNeg by (first | (apply Int.le_antisymm <;> omega) | omega)]
    · rw [en, u9, en]
      exact ⟨by rw [pk_us]; dsimp only; (first | (apply Int.le_antisymm <;> omega) | omega), fun _ => by rw [vpuL]; exact u8, fun z => absurd (zacc_g z) (by dsimp only; (first | (apply Int.le_antisymm <;> omega) | omega)), fun z => absurd z (by dsimp only; (first | (apply Int.le_antisymm <;> omega) | omega))⟩
    · have e1 : go2 st.length = cl := by rw [u7, show oc.toNatClampNeg = st.length by (first | (apply Int.le_antisymm <;> omega) | omega), pk_us]
      unfold obI
      rw [e1, pk_us, pk_us]
      refine ⟨by (first | (apply Int.le_antisymm <;> omega) | omega), by (first | (apply Int.le_antisymm <;> omega) | omega), by (first | (apply Int.le_antisymm <;> omega) | omega), ?_, fun z => absurd z (by decide), ob_up h2 (by (first | (apply Int.le_antisymm <;> omega) | omega)) (by (first | (apply Int.le_antisymm <;> omega) | omega)) (by (first | (apply Int.le_antisymm <;> omega) | omega)) (fun j hj => by rw [u7, pk_un (by (first | (apply Int.le_antisymm <;> omega) | omega))]) (fun k hk => pk_un (by (first | (apply Int.le_antisymm <;> omega) | omega))) (fun k hk => pk_un (by (first | (apply Int.le_antisymm <;> omega) | omega)))⟩
      by_cases q : o.toInt = 4
      · rw [if_pos (by (first | (apply Int.le_antisymm <;> omega) | omega)), if_pos ⟨q, by decide⟩]
      · rw [if_neg (by (first | (apply Int.le_antisymm <;> omega) | omega)), if_neg (fun z => q z.1)]
  · refine Or.inr ⟨u1, ?_⟩
    unfold zK1
    rw [if_pos (by (first | (apply Int.le_antisymm <;> omega) | omega)), if_pos (by (first | (apply Int.le_antisymm <;> omega) | omega)), show a0.toNatClampNeg + 1 = a1.toNatClampNeg by (first | (apply Int.le_antisymm <;> omega) | omega), if_neg (fun z => u2 ⟨by (first | (apply Int.le_antisymm <;> omega) | omega), z.2.1, by (first | (apply Int.le_antisymm <;> omega) | omega)⟩)]
theorem ri_els (h : rib f op pt el la go va st l o a0 a1 cl cl2 oc lc lim) (hz : tez oc s2 cl go (upd op cl.toNatClampNeg o) (upd el cl.toNatClampNeg (-1)) el2) (ho : o.toInt = 5) (hr : r.toInt = 1) (hc5 : cl.toInt < 5000) :
    riz f lim.toNatClampNeg a0.toNatClampNeg st l s2 a1 cl2 oc lc r (upd op cl.toNatClampNeg o) (upd pt cl.toNatClampNeg 0) el2 la go (vp_updL va cl.toNatClampNeg 0) := by
  have eb := rib_b h
  have en := rib_n h
  obtain ⟨h1, h2, h3, h4, h5, h6, h7, h8, h9, h10, h11, h12, h13⟩ := h
  have k0 := i32_clamp h8
  have k1 := i32_clamp (x := lim) (by (first | (apply Int.le_antisymm <;> omega) | omega))
  have k2 := i32_clamp (x := a1) (by (first | (apply Int.le_antisymm <;> omega) | omega))
  have ko := i32_clamp (x := oc) (by (first | (apply Int.le_antisymm <;> omega) | omega))
  have kc := i32_clamp (x := cl) (by (first | (apply Int.le_antisymm <;> omega) | omega))
  have hk : zK1 f lim.toNatClampNeg st a0.toNatClampNeg = if st.headD 0 = 1 then some ((5, 0, []), some (0 :: st.tail), a1.toNatClampNeg) else none := by
    unfold zK1
    rw [if_pos (by (first | (apply Int.le_antisymm <;> omega) | omega)), if_neg (by (first | (apply Int.le_antisymm <;> omega) | omega)), if_pos (by (first | (apply Int.le_antisymm <;> omega) | omega)), show a0.toNatClampNeg + 1 = a1.toNatClampNeg by (first | (apply Int.le_antisymm <;> omega) | omega)]
  unfold riz
  rw [hk]
  cases st with
  | nil =>
    rcases hz with ⟨u1, u2, -⟩ | ⟨u1, u2⟩
    · rw [List.length_nil] at h3
      (first | (apply Int.le_antisymm <;> omega) | omega)
    · exact Or.inr ⟨u1, if_neg (by decide)⟩
  | cons y st =>
    obtain ⟨b1, b2, b3, b4, b5, b6⟩ := h2
    rw [List.length_cons] at h3
    have eo : oc.toNatClampNeg - 1 = st.length := by (first | (apply Int.le_antisymm <;> omega) | omega)
    rw [List.headD_cons, List.tail_cons]
    rw [← en] at b2
    unfold tez at hz
    rw [eo, pk_un (show (go st.length).toNatClampNeg ≠ cl.toNatClampNeg by (first | (apply Int.le_antisymm <;> omega) | omega)), pk_un (show (go st.length).toNatClampNeg ≠ cl.toNatClampNeg by (first | (apply Int.le_antisymm <;> omega) | omega))] at hz
    rcases hz with ⟨u1, u2, u3, u4, u5⟩ | ⟨u1, u2⟩
    · refine Or.inl ⟨u1, (5, 0, []), some (0 :: st), if_pos (by rw [b4, if_pos ⟨u3, u4⟩]), by (first | (apply Int.le_antisymm <;> omega) | omega), ri_app h1 (fun k hk => pk_un (by (first | (apply Int.le_antisymm <;> omega) | omega))) (fun k hk => vpnL (by (first | (apply Int.le_antisymm <;> omega) | omega))) (fun k hk => Or.inl (pk_un (by (first | (apply Int.le_antisymm <;> omega) | omega)))) (fun _ _ => rfl) (Int.le_refl _) ?_, ?_, by (first | (apply Int.le_antisymm <;> omega) | omega), by (first | (apply Int.le_antisymm <;> omega) | omega), hr, by rw [List.length_cons]; (first | (apply Int.le_antisymm <;> omega) | omega), ?_⟩
      · rw [en]
        exact iC_0 (by rw [pk_us]; (first | (apply Int.le_antisymm <;> omega) | omega)) (by decide) (by (first | (apply Int.le_antisymm <;> omega) | omega)) (by decide) (by decide)
      · rw [u5]
        exact upd_lt (upd_lt h12 (by decide)) hc5
      · have e1 : el2 (go st.length).toNatClampNeg = cl := by rw [u5, pk_us]
        unfold obI
        rw [e1, pk_un (show (go st.length).toNatClampNeg ≠ cl.toNatClampNeg by (first | (apply Int.le_antisymm <;> omega) | omega)), pk_us]
        exact ⟨b1, by (first | (apply Int.le_antisymm <;> omega) | omega), b3, by rw [if_neg (by (first | (apply Int.le_antisymm <;> omega) | omega))], fun _ => ⟨by (first | (apply Int.le_antisymm <;> omega) | omega), by (first | (apply Int.le_antisymm <;> omega) | omega)⟩, ob_up b6 (Nat.le_refl _) (by (first | (apply Int.le_antisymm <;> omega) | omega)) (by (first | (apply Int.le_antisymm <;> omega) | omega)) (fun _ _ => rfl) (fun k hk => pk_un (by (first | (apply Int.le_antisymm <;> omega) | omega))) (fun k hk => by rw [u5, pk_un (by (first | (apply Int.le_antisymm <;> omega) | omega)), pk_un (by (first | (apply Int.le_antisymm <;> omega) | omega))])⟩
    · refine Or.inr ⟨u1, if_neg (fun z => u2 ⟨by (first | (apply Int.le_antisymm <;> omega) | omega), ?_⟩)⟩
      rw [b4] at z
      by_cases q : (op (go st.length).toNatClampNeg).toInt = 4 ∧ (el (go st.length).toNatClampNeg).toInt < 0
      · exact q
      · rw [if_neg q] at z
        exact absurd z (by decide)
theorem ri_end (h : rib f op pt el la go va st l o a0 a1 cl cl2 oc lc lim) (hs : s2.toInt = 1) (hr : r.toInt = 0 ∨ r.toInt = 1) (c0 : r.toInt = 0 → oc.toInt = 0 ∧ oc2 = oc ∧ pt2 = upd pt cl.toNatClampNeg 0) (c1 : r.toInt = 1 → 0 < oc.toInt ∧ oc2.toInt = oc.toInt - 1 ∧ pt2 = if 0 ≤ (upd el cl.toNatClampNeg (-1) (go (oc.toNatClampNeg - 1)).toNatClampNeg).toInt then upd (upd (upd pt cl.toNatClampNeg 0) (go (oc.toNatClampNeg - 1)).toNatClampNeg cl) (upd el cl.toNatClampNeg (-1) (go (oc.toNatClampNeg - 1)).toNatClampNeg).toNatClampNeg cl else upd (upd pt cl.toNatClampNeg 0) (go (oc.toNatClampNeg - 1)).toNatClampNeg cl) (ho : o.toInt = 11) :
    riz f lim.toNatClampNeg a0.toNatClampNeg st l s2 a1 cl2 oc2 lc r (upd op cl.toNatClampNeg o) pt2 (upd el cl.toNatClampNeg (-1)) la go (vp_updL va cl.toNatClampNeg 0) := by
  have eb := rib_b h
  have en := rib_n h
  obtain ⟨h1, h2, h3, h4, h5, h6, h7, h8, h9, h10, h11, h12, h13⟩ := h
  have k0 := i32_clamp h8
  have k1 := i32_clamp (x := lim) (by (first | (apply Int.le_antisymm <;> omega) | omega))
  have k2 := i32_clamp (x := a1) (by (first | (apply Int.le_antisymm <;> omega) | omega))
  have ko := i32_clamp (x := oc) (by (first | (apply Int.le_antisymm <;> omega) | omega))
  have kc := i32_clamp (x := cl) (by (first | (apply Int.le_antisymm <;> omega) | omega))
  have hk : zK1 f lim.toNatClampNeg st a0.toNatClampNeg = some ((11, 0, []), (if st = [] then none else some st.tail), a1.toNatClampNeg) := by
    unfold zK1
    rw [if_pos (by (first | (apply Int.le_antisymm <;> omega) | omega)), if_neg (by (first | (apply Int.le_antisymm <;> omega) | omega)), if_neg (by (first | (apply Int.le_antisymm <;> omega) | omega)), if_pos (by (first | (apply Int.le_antisymm <;> omega) | omega)), show a0.toNatClampNeg + 1 = a1.toNatClampNeg by (first | (apply Int.le_antisymm <;> omega) | omega)]
  refine Or.inl ⟨hs, _, _, hk, by (first | (apply Int.le_antisymm <;> omega) | omega), ?_, upd_lt h12 (by decide), by (first | (apply Int.le_antisymm <;> omega) | omega), by (first | (apply Int.le_antisymm <;> omega) | omega), ?_⟩
  · refine ri_app h1 (fun k hk => pk_un (by (first | (apply Int.le_antisymm <;> omega) | omega))) (fun k hk => vpnL (by (first | (apply Int.le_antisymm <;> omega) | omega))) (fun k hk => ?_) (fun _ _ => rfl) (Int.le_refl _) (by rw [en]; exact iC_0 (by rw [pk_us]; (first | (apply Int.le_antisymm <;> omega) | omega)) (by decide) (by (first | (apply Int.le_antisymm <;> omega) | omega)) (by decide) (by decide))
    rcases hr with e | e
    · rw [(c0 e).2.2]
      exact Or.inl (pk_un (by (first | (apply Int.le_antisymm <;> omega) | omega)))
    · obtain ⟨q1, q2, q3⟩ := c1 e
      cases st with
      | nil => rw [List.length_nil] at h3; (first | (apply Int.le_antisymm <;> omega) | omega)
      | cons y st =>
        obtain ⟨b1, b2, b3, b4, b5, b6⟩ := h2
        rw [List.length_cons] at h3
        rw [show oc.toNatClampNeg - 1 = st.length by (first | (apply Int.le_antisymm <;> omega) | omega), pk_un (show (go st.length).toNatClampNeg ≠ cl.toNatClampNeg by (first | (apply Int.le_antisymm <;> omega) | omega))] at q3
        by_cases w1 : k = (go st.length).toNatClampNeg
        · right
          rw [w1]
          (first | (apply Int.le_antisymm <;> omega) | omega)
        · by_cases w2 : 0 ≤ (el (go st.length).toNatClampNeg).toInt
          · rw [if_pos w2] at q3
            by_cases w3 : k = (el (go st.length).toNatClampNeg).toNatClampNeg
            · right
              rw [w3, (b5 w2).2]
              (first | (apply Int.le_antisymm <;> omega) | omega)
            · left
              rw [q3, pk_un w3, pk_un w1, pk_un (by (first | (apply Int.le_antisymm <;> omega) | omega))]
          · rw [if_neg w2] at q3
            left
            rw [q3, pk_un w1, pk_un (by (first | (apply Int.le_antisymm <;> omega) | omega))]
  · cases st with
    | nil =>
      rw [List.length_nil] at h3
      rw [if_pos rfl]
      rcases hr with e | e
      · exact e
      · have := (c1 e).1
        (first | (apply Int.le_antisymm <;> omega) | omega)
    | cons y st =>
      rw [List.length_cons] at h3
      rw [if_neg (by intro z; cases z), List.tail_cons]
      rcases hr with e | e
      · have := (c0 e).1
        (first | (apply Int.le_antisymm <;> omega) | omega)
      · obtain ⟨b1, b2, b3, b4, b5, b6⟩ := h2
        exact ⟨e, by have := (c1 e).2.1; (first | (apply Int.le_antisymm <;> omega) | omega), ob_up b6 (by (first | (apply Int.le_antisymm <;> omega) | omega)) (by (first | (apply Int.le_antisymm <;> omega) | omega)) (by (first | (apply Int.le_antisymm <;> omega) | omega)) (fun _ _ => rfl) (fun k hk => pk_un (by (first | (apply Int.le_antisymm <;> omega) | omega))) (fun k hk => pk_un (by (first | (apply Int.le_antisymm <;> omega) | omega)))⟩
end RIZ
theorem rn_1 {f : Nat → Int32} {s a lim s2 a2 r : Int32} (h : rn f s a lim s2 a2 r) (h2 : s2.toInt = 1) : a.toInt < lim.toInt ∧ a2.toInt = a.toInt + 1 ∧ r.toInt = (bn (f a.toNatClampNeg) : Int) := by
  rcases h with ⟨h1, h2, h3, h4, h5⟩ | ⟨h1, h2, h3, h4⟩
  · exact ⟨h3, h4, h5⟩
  · (first | (apply Int.le_antisymm <;> omega) | omega)
theorem k1_n {f : Nat → Int32} {s a lim s2 a2 r : Int32} {st : List Nat} (h : rn f s a lim s2 a2 r) (hs : s.toInt = 1) (h2 : s2.toInt = 0) (ha : 0 ≤ a.toInt) (hl : 0 ≤ lim.toInt) : zK1 f lim.toNatClampNeg st a.toNatClampNeg = none := by
  have k0 := i32_clamp ha
  have k1 := i32_clamp hl
  rcases h with ⟨h1, -⟩ | ⟨h1, h2, h3, h4⟩
  · (first | (apply Int.le_antisymm <;> omega) | omega)
  · have := h2 hs
    unfold zK1
    rw [if_neg (by (first | (apply Int.le_antisymm <;> omega) | omega))]

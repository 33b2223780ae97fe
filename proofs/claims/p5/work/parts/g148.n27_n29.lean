section q_n27
/-! the reference: functions as emission reads them -/
def fte (L : List Nat) (f : Nat → va_E) (cr cpn cpb : ClassId) (fc gc : Int) (gv tk : Nat → Int) (n : Int) (g : Nat → Option Nat) (fa : Nat → Nat) (kf : Nat → Int) (nmf : Nat → Value) (plf : Nat → Int32) (nsf lsf yf : Nat → Nat) (psf Nf rsf : Nat → Int32) (bf : Nat → Nat) (Tf : Nat → Nat → Int32) (df : Nat → Nat) (sgf : Nat → Int32) : Prop := ∀ j : Nat, (j : Int) < n → g j = some (fa j) ∧ 0 ≤ kf j ∧ (fa j ∈ L ∧ f (fa j) = .inr (14, [nmf j, .int (plf j), .ref (nsf j), .ref (lsf j), .ref (yf j), .int (psf j), .int (Nf j), .int (rsf j), .ref (bf j), .int (sgf j)])) ∧ (yf j ∈ L ∧ f (yf j) = .inl (cr, 51, .inl (Tf j))) ∧ nmP L f cpb (nmf j) ∧ (0 ≤ (psf j).toInt ∧ (psf j).toInt ≤ 8 ∧ (psf j).toInt ≤ (Nf j).toInt ∧ (Nf j).toInt ≤ 50) ∧ (∀ i : Nat, (i : Int) < (Nf j).toInt → t27 (Tf j i).toInt) ∧ ((rsf j).toInt = 0 ∨ t27 (rsf j).toInt) ∧ gv j = ga0 (rsf j).toInt ∧ tk j = (psf j).toInt ∧ df j ≤ 372 ∧ ts L f cpn cpb (Nf j).toInt fc gc gv tk (gg9 (rsf j).toInt) (df j) false (bf j) (kf j) 82
def ffp (L : List Nat) (f : Nat → va_E) (cpn : ClassId) (n : Int) (df bf : Nat → Nat) : Prop := ∀ j : Nat, (j : Int) < n → ∃ K0, fp L f cpn (df j) (bf j) K0
def inj9 (n : Int) (fa : Nat → Nat) : Prop := ∀ i j : Nat, (i : Int) < n → (j : Int) < n → fa i = fa j → i = j
section FTE
variable {L : List Nat} {f f2 : Nat → va_E} {cps cr cpn cpb : ClassId} {fc gc : Int} {gv tk : Nat → Int} {n : Int} {g : Nat → Option Nat} {fa : Nat → Nat} {kf : Nat → Int} {nmf : Nat → Value} {plf : Nat → Int32} {nsf lsf yf : Nat → Nat} {psf Nf rsf : Nat → Int32} {bf : Nat → Nat} {Tf : Nat → Nat → Int32} {df : Nat → Nat} {sgf : Nat → Int32}
theorem fte_of {Kf : Nat → Nat → Prop} (h : fmx L f cps cr cpn cpb fc gc gv tk n g fa kf Kf n) : ∃ (nmf : Nat → Value) (plf : Nat → Int32) (nsf lsf yf : Nat → Nat) (psf Nf rsf : Nat → Int32) (bf : Nat → Nat) (Tf : Nat → Nat → Int32) (df : Nat → Nat) (sgf : Nat → Int32), fte L f cr cpn cpb fc gc gv tk n g fa kf nmf plf nsf lsf yf psf Nf rsf bf Tf df sgf ∧ ffp L f cpn n df bf ∧ inj9 n fa := by
  obtain ⟨h1, -, h3, h4⟩ := h
  have q : ∀ j : Nat, ∃ x : Value × Int32 × Nat × Nat × Nat × Int32 × Int32 × Int32 × Nat × (Nat → Int32) × Nat × Int32, (j : Int) < n → (fa j ∈ L ∧ f (fa j) = .inr (14, [x.1, .int x.2.1, .ref x.2.2.1, .ref x.2.2.2.1, .ref x.2.2.2.2.1, .int x.2.2.2.2.2.1, .int x.2.2.2.2.2.2.1, .int x.2.2.2.2.2.2.2.1, .ref x.2.2.2.2.2.2.2.2.1, .int x.2.2.2.2.2.2.2.2.2.2.2])) ∧ (x.2.2.2.2.1 ∈ L ∧ f x.2.2.2.2.1 = .inl (cr, 51, .inl x.2.2.2.2.2.2.2.2.2.1)) ∧ nmP L f cpb x.1 ∧ (0 ≤ x.2.2.2.2.2.1.toInt ∧ x.2.2.2.2.2.1.toInt ≤ 8 ∧ x.2.2.2.2.2.1.toInt ≤ x.2.2.2.2.2.2.1.toInt ∧ x.2.2.2.2.2.2.1.toInt ≤ 50) ∧ (∀ i : Nat, (i : Int) < x.2.2.2.2.2.2.1.toInt → t27 (x.2.2.2.2.2.2.2.2.2.1 i).toInt) ∧ (x.2.2.2.2.2.2.2.1.toInt = 0 ∨ t27 x.2.2.2.2.2.2.2.1.toInt) ∧ gv j = ga0 x.2.2.2.2.2.2.2.1.toInt ∧ tk j = x.2.2.2.2.2.1.toInt ∧ x.2.2.2.2.2.2.2.2.2.2.1 ≤ 372 ∧ ts L f cpn cpb x.2.2.2.2.2.2.1.toInt fc gc gv tk (gg9 x.2.2.2.2.2.2.2.1.toInt) x.2.2.2.2.2.2.2.2.2.2.1 false x.2.2.2.2.2.2.2.2.1 (kf j) 82 ∧ ∃ K0, fp L f cpn x.2.2.2.2.2.2.2.2.2.2.1 x.2.2.2.2.2.2.2.2.1 K0 := by
    intro j
    by_cases hj : (j : Int) < n
    · obtain ⟨nm, pl, nms, pls, tys, ps, N, rs, bd, sg, hq9r⟩ := h3 j hj
      obtain ⟨d, gn, T, K0, a1, -, a3, a4, a5, a6, hq9r⟩ := hq9r
      obtain ⟨a7, a8, a9, b1, b2, b3, -⟩ := hq9r
      exact ⟨(nm, pl, nms, pls, tys, ps, N, rs, bd, T, d, sg), fun _ => ⟨a1, a3, a4, a6, fun i hi => (a5 i hi).1, a7, a8, a9, b1, b2, K0, b3⟩⟩
    · exact ⟨(.null, 0, 0, 0, 0, 0, 0, 0, 0, fun _ => 0, 0, 0), fun z => absurd z hj⟩
  let X : Nat → Value × Int32 × Nat × Nat × Nat × Int32 × Int32 × Int32 × Nat × (Nat → Int32) × Nat × Int32 := fun j => Classical.choose (q j)
  have hX := fun j => Classical.choose_spec (q j)
  refine ⟨fun j => (X j).1, fun j => (X j).2.1, fun j => (X j).2.2.1, fun j => (X j).2.2.2.1, fun j => (X j).2.2.2.2.1, fun j => (X j).2.2.2.2.2.1, fun j => (X j).2.2.2.2.2.2.1, fun j => (X j).2.2.2.2.2.2.2.1, fun j => (X j).2.2.2.2.2.2.2.2.1, fun j => (X j).2.2.2.2.2.2.2.2.2.1, fun j => (X j).2.2.2.2.2.2.2.2.2.2.1, fun j => (X j).2.2.2.2.2.2.2.2.2.2.2, fun j hj => ?_, fun j hj => ?_, fun i j hi hj e => ?_⟩
  · obtain ⟨a1, a2, a3, a4, a5, a6, a7, a8, a9, b1, -⟩ := hX j hj
    exact ⟨(h1 j hj).1, (h1 j hj).2, a1, a2, a3, a4, a5, a6, a7, a8, a9, b1⟩
  · exact (hX j hj).2.2.2.2.2.2.2.2.2.2
  · obtain ⟨nm, pl, nms, pls, tys, ps, N, rs, bd, sg, hq9r⟩ := h3 i hi
    obtain ⟨d, gn, T, K0, -, -, -, -, -, -, hq9r⟩ := hq9r
    obtain ⟨-, -, -, -, -, -, -, c1, -⟩ := hq9r
    obtain ⟨nm', pl', nms', pls', tys', ps', N', rs', bd', sg', hq9r⟩ := h3 j hj
    obtain ⟨d', gn', T', K0', -, -, -, -, -, -, hq9r⟩ := hq9r
    obtain ⟨-, -, -, -, -, -, -, c2, -⟩ := hq9r
    exact h4 i j (fa j) hi hj (e ▸ c1) c2
/-- a signature is written down -/
theorem fte_sg {k : Nat} {s : Int32} (h : fte L f cr cpn cpb fc gc gv tk n g fa kf nmf plf nsf lsf yf psf Nf rsf bf Tf df sgf) (hf : ffp L f cpn n df bf) (hi : inj9 n fa) (hk : (k : Int) < n) : fte L (va_up f (fa k) (.inr (14, [nmf k, .int (plf k), .ref (nsf k), .ref (lsf k), .ref (yf k), .int (psf k), .int (Nf k), .int (rsf k), .ref (bf k), .int s]))) cr cpn cpb fc gc gv tk n g fa kf nmf plf nsf lsf yf psf Nf rsf bf Tf df (upd sgf k s) ∧ ffp L (va_up f (fa k) (.inr (14, [nmf k, .int (plf k), .ref (nsf k), .ref (lsf k), .ref (yf k), .int (psf k), .int (Nf k), .int (rsf k), .ref (bf k), .int s]))) cpn n df bf := by
  have hc := cgs.up14 (vs2 := [nmf k, .int (plf k), .ref (nsf k), .ref (lsf k), .ref (yf k), .int (psf k), .int (Nf k), .int (rsf k), .ref (bf k), .int s]) (cpn := cpn) (cpb := cpb) (K := fun _ => False) (M := fun _ => True) (h k hk).2.2.1.2 trivial
  refine ⟨fun j hj => ?_, fun j hj => ?_⟩
  · obtain ⟨a1, a2, ⟨a3, a4⟩, ⟨a5, a6⟩, a7, a8, a9, b1, b2, b3, b4, b5⟩ := h j hj
    obtain ⟨K0, hK0⟩ := hf j hj
    have e1 : va_up f (fa k) (.inr (14, [nmf k, .int (plf k), .ref (nsf k), .ref (lsf k), .ref (yf k), .int (psf k), .int (Nf k), .int (rsf k), .ref (bf k), .int s])) (yf j) = .inl (cr, 51, .inl (Tf j)) := up_a a6 (h k hk).2.2.1.2
    refine ⟨a1, a2, ⟨a3, ?_⟩, ⟨a5, e1⟩, hc.2.nm a7, a8, a9, b1, b2, b3, b4, ts_kp hc.2 (Int.le_refl _) (df j) (fun x hx q => q) hK0 b5⟩
    by_cases q : j = k
    · subst q
      rw [va_up_self, pk_us]
    · rw [va_up_ne _ _ (fun z => q (hi j k hj hk z)), pk_un q]
      exact a4
  · obtain ⟨K0, hK0⟩ := hf j hj
    exact ⟨K0, hc.2.fp _ hK0⟩
theorem nmP_hsh {nm : Value} (h : hsh f f2) (hs : nmP L f cpb nm) : nmP L f2 cpb nm := by
  obtain ⟨s, nb, e, h1, h2⟩ := hs
  exact ⟨s, nb, e, h.s h1, h2⟩
theorem fte_hsh (hh : hsh f f2) (h : fte L f cr cpn cpb fc gc gv tk n g fa kf nmf plf nsf lsf yf psf Nf rsf bf Tf df sgf) : fte L f2 cr cpn cpb fc gc gv tk n g fa kf nmf plf nsf lsf yf psf Nf rsf bf Tf df sgf := fun j hj => by
  obtain ⟨a1, a2, ⟨a3, a4⟩, ⟨a5, a6⟩, a7, a8, a9, b1, b2, b3, b4, b5⟩ := h j hj
  exact ⟨a1, a2, ⟨a3, hh.n (by decide) a4⟩, ⟨a5, hh.a a6⟩, nmP_hsh hh a7, a8, a9, b1, b2, b3, b4, ts_hsh hh _ b5⟩
end FTE
end q_n27
section q_n28
/-! the reference: what emission makes -/
/-- the first n bytes made are W -/
def mdl (g : Nat → Int32) (n : Int32) (W : List Nat) : Prop := n.toInt = (W.length : Int) ∧ bl g n.toNatClampNeg = W
section MDL
variable {g g2 : Nat → Int32} {n n2 p : Int32} {W X Y : List Nat}
theorem mdl_0 (h : n.toInt = 0) : mdl g n [] := ⟨by rw [h]; rfl, by have := i32_clamp (x := n) (by (first | (apply Int.le_antisymm <;> omega) | omega)); rw [show n.toNatClampNeg = 0 by (first | (apply Int.le_antisymm <;> omega) | omega)]; rfl⟩
theorem mdl_app (h : mdl g n W) (hb : bl g2 n2.toNatClampNeg = bl g n.toNatClampNeg ++ Y) (h2 : 0 ≤ n2.toInt) : mdl g2 n2 (W ++ Y) := by
  rw [h.2] at hb
  refine ⟨?_, hb⟩
  have q := congrArg List.length hb
  rw [bl_len] at q
  have := i32_clamp (x := n2) h2
  (first | (apply Int.le_antisymm <;> omega) | omega)
theorem mdl_sz (h : mdl g n (X ++ Y)) (hp : p.toInt = (X.length : Int)) (hb : bl g2 n2.toNatClampNeg = bl g p.toNatClampNeg ++ (leb 5 (n.toInt - p.toInt).toNat ++ bl (fun j => g (p.toNatClampNeg + j)) (n.toInt - p.toInt).toNat)) (h2 : 0 ≤ n2.toInt) : mdl g2 n2 (X ++ (leb 5 Y.length ++ Y)) := by
  obtain ⟨h3, h4⟩ := h
  rw [List.length_append] at h3
  have zp := i32_clamp (x := p) (by (first | (apply Int.le_antisymm <;> omega) | omega))
  have zn := i32_clamp (x := n) (by (first | (apply Int.le_antisymm <;> omega) | omega))
  have e1 : (n.toInt - p.toInt).toNat = Y.length := by (first | (apply Int.le_antisymm <;> omega) | omega)
  have e2 : n.toNatClampNeg = X.length + Y.length := by (first | (apply Int.le_antisymm <;> omega) | omega)
  have e3 : p.toNatClampNeg = X.length := by (first | (apply Int.le_antisymm <;> omega) | omega)
  rw [e2, bl_add] at h4
  obtain ⟨e4, e5⟩ := List.append_inj h4 (by rw [bl_len])
  rw [e1, e3, e4, e5] at hb
  refine ⟨?_, hb⟩
  have q := congrArg List.length hb
  rw [bl_len] at q
  have := i32_clamp (x := n2) h2
  (first | (apply Int.le_antisymm <;> omega) | omega)
theorem mdl_len (h : mdl g n W) : n.toInt = (W.length : Int) := h.1
end MDL
/-- a function's result as the module's tables say it -/
def qf9 (rs : Nat → Int32) : Nat → Int32 := fun j => if (rs j).toInt = 0 then 64 else rs j
theorem qf_64 {rs : Nat → Int32} {j : Nat} (h : (rs j).toInt = 0) : qf9 rs j = 64 := if_pos h
theorem qf_n {rs : Nat → Int32} {j : Nat} (h : (rs j).toInt ≠ 0) : qf9 rs j = rs j := if_neg h
theorem qf_gg {rs : Nat → Int32} {j : Nat} : (qf9 rs j).toInt = gg9 (rs j).toInt := by
  by_cases h : (rs j).toInt = 0
  · rw [qf_64 h, h]; decide
  · rw [qf_n h]; exact (if_neg h).symm
theorem qf_ty {rs : Nat → Int32} {j : Nat} (h : (rs j).toInt = 0 ∨ t27 (rs j).toInt) : ty (qf9 rs j).toInt := by
  by_cases q : (rs j).toInt = 0
  · rw [qf_64 q]; exact Or.inr (Or.inr (by decide))
  · rw [qf_n q]
    have := h.resolve_left q
    unfold t27 at this
    unfold ty
    (first | (apply Int.le_antisymm <;> omega) | omega)
/-- signatures: of function f, as far as it is looked for -/
def sg9 (to : Nat → Int32) (tk : Nat → Int) (ft : Nat → Int32) (f : Nat) (R : List Nat) : Prop := tyI to tk ft f R ∧ ((to f).toInt = -1 ∨ (0 ≤ (to f).toInt ∧ ∃ r, R[(to f).toInt.toNat]? = some r ∧ tk r = tk f ∧ ft r = ft f))
section SG
variable {to : Nat → Int32} {tk : Nat → Int} {ft : Nat → Int32} {f k : Nat} {R : List Nat}
theorem sg_0 (h : tyI to tk ft f R) : sg9 (upd to f (-1)) tk ft f R := ⟨tyI_upd f (Nat.le_refl _) h, Or.inl (by rw [pk_us]; decide)⟩
theorem sg_k {x : Int32} (h : sg9 to tk ft f R) (hk : k < f) (hx : x = to k) (h1 : tk k = tk f) (h2 : ft k = ft f) : sg9 (upd to f x) tk ft f R := by
  obtain ⟨q0, r, q1, q2, q3⟩ := tyI_get f h.1 k hk
  exact ⟨tyI_upd f (Nat.le_refl _) h.1, Or.inr ⟨by rw [pk_us, hx]; exact q0, r, by rw [pk_us, hx]; exact q1, by rw [q2, h1], by rw [q3, h2]⟩⟩
theorem sg_old (h : sg9 to tk ft f R) (h0 : 0 ≤ (to f).toInt) : tyI to tk ft (f + 1) R := by
  rcases h.2 with q | ⟨q0, r, q1, q2, q3⟩
  · (first | (apply Int.le_antisymm <;> omega) | omega)
  · exact ⟨R, h.1, Or.inr ⟨rfl, r, q0, q1, q2, q3⟩⟩
theorem sg_new {x : Int32} (h : sg9 to tk ft f R) (hx : x.toInt = (R.length : Int)) : tyI (upd to f x) tk ft (f + 1) (R ++ [f]) := ⟨R, tyI_upd f (Nat.le_refl _) h.1, Or.inl ⟨rfl, by rw [pk_us]; exact hx⟩⟩
end SG
/-- the bytes of the first n of a row -/
theorem bl_ps {T : Nat → Int32} {n : Nat} (h : ∀ i, i < n → t27 (T i).toInt) : ∀ p ∈ bl T n, p = 127 ∨ p = 126 := by
  intro p hp
  unfold bl at hp
  obtain ⟨i, hi, e⟩ := List.mem_map.mp hp
  have q := h i (List.mem_range.mp hi)
  unfold t27 at q
  subst e
  rcases q with q | q
  · exact Or.inl (bn_k (k := 127) q (by (first | (apply Int.le_antisymm <;> omega) | omega)))
  · exact Or.inr (bn_k (k := 126) q (by (first | (apply Int.le_antisymm <;> omega) | omega)))
theorem isT_9 {tk : Nat → Int} {rs : Nat → Int32} {T : Nat → Int32} {j n : Nat} {e : List Nat} (hn : (n : Int) = tk j) (h8 : n ≤ 8) (hT : ∀ i, i < n → t27 (T i).toInt) (hr : (rs j).toInt = 0 ∨ t27 (rs j).toInt) (he : e = (([96] ++ leb 5 n) ++ bl T n) ++ (if (rs j).toInt = 0 then leb 5 0 else leb 5 1 ++ [bn (rs j)])) : isT tk (qf9 rs) j e := by
  refine ⟨bl T n, by rw [bl_len]; exact hn, bl_ps hT, ?_⟩
  rw [he]
  unfold tyb
  rw [bl_len, leb_1 (by (first | (apply Int.le_antisymm <;> omega) | omega) : n < 128), leb_1 (by (first | (apply Int.le_antisymm <;> omega) | omega) : 0 < 128), leb_1 (by (first | (apply Int.le_antisymm <;> omega) | omega) : 1 < 128)]
  by_cases q : (rs j).toInt = 0
  · rw [if_pos q, qf_64 q]
    simp
  · rw [if_neg q, qf_n q]
    have t := hr.resolve_left q
    unfold t27 at t
    have b : bn (rs j) = (rs j).toInt.toNat := bn_k (by (first | (apply Int.le_antisymm <;> omega) | omega)) (by (first | (apply Int.le_antisymm <;> omega) | omega))
    rw [b, if_neg (by (first | (apply Int.le_antisymm <;> omega) | omega))]
    simp
theorem cFq_snoc {Q : Nat → List (Nat × Nat) → List ci → Prop} {e : List Nat} {k : Nat} : ∀ (m f : Nat) {bs : List Nat} {I : Nat}, cFq Q f m bs I → fQ Q (f + m) k e → cFq Q f (m + 1) (bs ++ e) (I + k + 1)
  | 0, f, bs, I, h, he => by
    obtain ⟨rfl, rfl⟩ := h
    exact ⟨e, [], k, 0, by simp, he, by (first | (apply Int.le_antisymm <;> omega) | omega), rfl, rfl⟩
  | m + 1, f, bs, I, h, he => by
    obtain ⟨e1, b, k1, I1, rfl, h2, h3, h4⟩ := h
    rw [show f + (m + 1) = f + 1 + m by (first | (apply Int.le_antisymm <;> omega) | omega)] at he
    exact ⟨e1, b ++ e, k1, I1 + k + 1, by rw [List.append_assoc], h2, by (first | (apply Int.le_antisymm <;> omega) | omega), cFq_snoc m (f + 1) h4 he⟩
end q_n28
section q_n29
/-! the reference: emission: what is made, and read again -/
theorem mdl_ap2 {g g2 : Nat → Int32} {n n2 : Int32} {X Y Z : List Nat} (h : mdl g n (X ++ Y)) (hb : bl g2 n2.toNatClampNeg = bl g n.toNatClampNeg ++ Z) (h2 : 0 ≤ n2.toInt) : mdl g2 n2 (X ++ (Y ++ Z)) := by
  have q := mdl_app h hb h2
  rw [List.append_assoc] at q
  exact q
theorem mdl_sec {g : Nat → Int32} {n : Int32} {A Y : List Nat} {k : Nat} (h : mdl g n ((A ++ [k]) ++ (leb 5 Y.length ++ Y))) : mdl g n (A ++ sec k Y) := by
  have e : (A ++ [k]) ++ (leb 5 Y.length ++ Y) = A ++ sec k Y := by unfold sec; rw [List.append_assoc]; rfl
  rw [← e]
  exact h
/-- what is to be read again -/
def em9 (gv tk : Nat → Int) (rs : Nat → Int32) (fc gc : Int) (qn : Nat) (W : List Nat) (A : List Nat) : Prop := ∃ (qct : Nat → List Nat) (qg : Bool) (qTs qtb : List Nat) (qto : Nat → Int32) (qG : List (Nat × Int)) (qX : List (List Nat × Nat × Nat)) (qcb : List Nat) (qI : Nat), W = A ++ rs9 qct qg 1 ∧ (qg = true ↔ qG ≠ []) ∧ (qG.length : Int) = gc ∧ tyI qto tk (qf9 rs) qn qTs ∧ (qct 1 = qTs.length :: qtb ∧ qTs.length ≤ 20 ∧ tB tk (qf9 rs) qTs qtb ∧ (∀ r ∈ qTs, tk r ≤ 8) ∧ (∀ r ∈ qTs, ty (qf9 rs r).toInt)) ∧ (qct 3 = qn :: tol qto qn ∧ qn ≤ 20 ∧ ∀ f, f < qn → 0 ≤ (qto f).toInt ∧ (qto f).toInt < 128) ∧ qct 5 = [1, 1, 1, 2] ∧ (qct 6 = qG.length :: gbl qG ∧ qG.length ≤ 20 ∧ ∀ x ∈ qG, gok x) ∧ (qct 7 = qX.length :: exb qX ∧ qX.length ≤ 40 ∧ ∀ x ∈ qX, eok x) ∧ (qct 10 = qn :: qcb ∧ qn ≤ 20 ∧ cFq (Qc gv tk (fun f => gg9 (rs f).toInt) fc gc) 0 qn qcb qI ∧ qI ≤ 5000)
def gl9 (ty : Nat → Int32) (vl : Nat → Int64) (k : Nat) : List (Nat × Int) := (List.range k).map (fun j => ((ty j).toInt.toNat, (vl j).toInt))
theorem gl9_s {ty : Nat → Int32} {vl : Nat → Int64} {k : Nat} : gl9 ty vl (k + 1) = gl9 ty vl k ++ [((ty k).toInt.toNat, (vl k).toInt)] := by
  unfold gl9
  rw [List.range_succ, List.map_append]
  rfl
theorem gl9_len {ty : Nat → Int32} {vl : Nat → Int64} {k : Nat} : (gl9 ty vl k).length = k := by unfold gl9; rw [List.length_map, List.length_range]
theorem gl9_ok {ty : Nat → Int32} {vl : Nat → Int64} {k : Nat} (h : ∀ j : Nat, j < k → t27 (ty j).toInt ∧ ((ty j).toInt = 127 → in32 (vl j))) : ∀ x ∈ gl9 ty vl k, gok x := by
  intro x hx
  unfold gl9 at hx
  obtain ⟨j, hj, e⟩ := List.mem_map.mp hx
  subst e
  obtain ⟨h1, h2⟩ := h j (List.mem_range.mp hj)
  unfold t27 at h1
  have lo := Int64.le_toInt (vl j)
  have hi := Int64.toInt_lt (vl j)
  rcases h1 with q | q
  · have := h2 q
    unfold in32 at this
    exact Or.inl ⟨by dsimp only; (first | (apply Int.le_antisymm <;> omega) | omega), this⟩
  · exact Or.inr ⟨by dsimp only; (first | (apply Int.le_antisymm <;> omega) | omega), by dsimp only; (first | (apply Int.le_antisymm <;> omega) | omega), by dsimp only; (first | (apply Int.le_antisymm <;> omega) | omega)⟩
end q_n29

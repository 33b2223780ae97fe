/-! the reference: functions as emission reads them -/
def fte (L : List Nat) (f : Nat → va_E) (cr cpn cpb : ClassId) (fc gc : Int) (gv tk : Nat → Int) (n : Int) (g : Nat → Option Nat) (fa : Nat → Nat) (kf : Nat → Int) (nmf : Nat → Value) (plf : Nat → Int32) (nsf lsf yf : Nat → Nat) (psf Nf rsf : Nat → Int32) (bf : Nat → Nat) (Tf : Nat → Nat → Int32) (df : Nat → Nat) (sgf : Nat → Int32) : Prop := ∀ j : Nat, (j : Int) < n → g j = some (fa j) ∧ 0 ≤ kf j ∧ (fa j ∈ L ∧ f (fa j) = .inr (14, [nmf j, .int (plf j), .ref (nsf j), .ref (lsf j), .ref (yf j), .int (psf j), .int (Nf j), .int (rsf j), .ref (bf j), .int (sgf j)])) ∧ (yf j ∈ L ∧ f (yf j) = .inl (cr, 51, .inl (Tf j))) ∧ nmP L f cpb (nmf j) ∧ (0 ≤ (psf j).toInt ∧ (psf j).toInt ≤ 8 ∧ (psf j).toInt ≤ (Nf j).toInt ∧ (Nf j).toInt ≤ 50) ∧ (∀ i : Nat, (i : Int) < (Nf j).toInt → t27 (Tf j i).toInt) ∧ ((rsf j).toInt = 0 ∨ t27 (rsf j).toInt) ∧ gv j = ga0 (rsf j).toInt ∧ tk j = (psf j).toInt ∧ df j ≤ 372 ∧ ts L f cpn cpb (Nf j).toInt fc gc gv tk (gg9 (rsf j).toInt) (df j) false (bf j) (kf j) 82
def ffp (L : List Nat) (f : Nat → va_E) (cpn : ClassId) (n : Int) (df bf : Nat → Nat) : Prop := ∀ j : Nat, (j : Int) < n → ∃ K0, fp L f cpn (df j) (bf j) K0
def inj9 (n : Int) (fa : Nat → Nat) : Prop := ∀ i j : Nat, (i : Int) < n → (j : Int) < n → fa i = fa j → i = j
section FTE
variable {L : List Nat} {f f2 : Nat → va_E} {cps cr cpn cpb : ClassId} {fc gc : Int} {gv tk : Nat → Int} {n : Int} {g : Nat → Option Nat} {fa : Nat → Nat} {kf : Nat → Int} {nmf : Nat → Value} {plf : Nat → Int32} {nsf lsf yf : Nat → Nat} {psf Nf rsf : Nat → Int32} {bf : Nat → Nat} {Tf : Nat → Nat → Int32} {df : Nat → Nat} {sgf : Nat → Int32}
theorem fte_of {Kf : Nat → Nat → Prop} (h : fmx L f cps cr cpn cpb fc gc gv tk n g fa kf Kf n) : ∃ (nmf : Nat → Value) (plf : Nat → Int32) (nsf lsf yf : Nat → Nat) (psf Nf rsf : Nat → Int32) (bf : Nat → Nat) (Tf : Nat → Nat → Int32) (df : Nat → Nat) (sgf : Nat → Int32), fte L f cr cpn cpb fc gc gv tk n g fa kf nmf plf nsf lsf yf psf Nf rsf bf Tf df sgf ∧ ffp L f cpn n df bf ∧ inj9 n fa := by
  obtain ⟨h1, -, h3, h4⟩ := h
  have q : ∀ j : Nat, ∃ x : Value × Int32 × Nat × Nat × Nat × Int32 × Int32 × Int32 × Nat × (Nat → Int32) × Nat × Int32, (j : Int) < n → (fa j ∈ L ∧ f (fa j) = .inr (14, [x.1, .int x.2.1, .ref x.2.2.1, .ref x.2.2.2.1, .ref x.2.2.2.2.1, .int x.2.2.2.2.2.1, .int x.2.2.2.2.2.2.1, .int x.2.2.2.2.2.2.2.1, .ref x.2.2.2.2.2.2.2.2.1, .int x.2.2.2.2.2.2.2.2.2.2.2])) ∧ (x.2.2.2.2.1 ∈ L ∧ f x.2.2.2.2.1 = .inl (cr, 51, .inl x.2.2.2.2.2.2.2.2.2.1)) ∧ nmP L f cpb x.1 ∧ (0 ≤ x.2.2.2.2.2.1.toInt ∧ x.2.2.2.2.2.1.toInt ≤ 8 ∧ x.2.2.2.2.2.1.toInt ≤ x.2.2.2.2.2.2.1.toInt ∧ x.2.2.2.2.2.2.1.toInt ≤ 50) ∧ (∀ i : Nat, (i : Int) < x.2.2.2.2.2.2.1.toInt → t27 (x.2.2.2.2.2.2.2.2.2.1 i).toInt) ∧ (x.2.2.2.2.2.2.2.1.toInt = 0 ∨ t27 x.2.2.2.2.2.2.2.1.toInt) ∧ gv j = ga0 x.2.2.2.2.2.2.2.1.toInt ∧ tk j = x.2.2.2.2.2.1.toInt ∧ x.2.2.2.2.2.2.2.2.2.2.1 ≤ 372 ∧ ts L f cpn cpb x.2.2.2.2.2.2.1.toInt fc gc gv tk (gg9 x.2.2.2.2.2.2.2.1.toInt) x.2.2.2.2.2.2.2.2.2.2.1 false x.2.2.2.2.2.2.2.2.1 (kf j) 82 ∧ ∃ K0, fp L f cpn x.2.2.2.2.2.2.2.2.2.2.1 x.2.2.2.2.2.2.2.2.1 K0 := by
    intro j
    by_cases hj : (j : Int) < n
    · obtain ⟨nm, pl, nms, pls, tys, ps, N, rs, bd, sg, hq9r⟩ := h3 j hj
      obtain ⟨d, gn, T, K0, a1, -, a3, a4, a5, a6, hq9r⟩ := hq9r
      obtain ⟨a7, a8, a9, b1, b2, b3, -⟩ := hq9r
      exact ⟨(nm, pl, nms, pls, tys, ps, N, rs, bd, T, d, sg), fun _ => ⟨a1, a3, a4, a6, fun i hi => (a5 i hi).1, a7, a8, a9, b1, b2, K0, b3⟩⟩
    · exact ⟨(.null, 0, 0, 0, 0, 0, 0, 0, 0, fun _ => 0, 0, 0), fun z => absurd z hj⟩
  let X : Nat → Value × Int32 × Nat × Nat × Nat × Int32 × Int32 × Int32 × Nat × (Nat → Int32) × Nat × Int32 := fun j => Classical.choose (q j)
  have hX := fun j => Classical.choose_spec (q j)
  refine ⟨fun j => (X j).1, fun j => (X j).2.1, fun j => (X j).2.2.1, fun j => (X j).2.2.2.1, fun j => (X j).2.2.2.2.1, fun j => (X j).2.2.2.2.2.1, fun j => (X j).2.2.2.2.2.2.1, fun j => (X j).2.2.2.2.2.2.2.1, fun j => (X j).2.2.2.2.2.2.2.2.1, fun j => (X j).2.2.2.2.2.2.2.2.2.1, fun j => (X j).2.2.2.2.2.2.2.2.2.2.1, fun j => (X j).2.2.2.2.2.2.2.2.2.2.2, fun j hj => ?_, fun j hj => ?_, fun i j hi hj e => ?_⟩
  · obtain ⟨a1, a2, a3, a4, a5, a6, a7, a8, a9, b1, -⟩ := hX j hj
    exact ⟨(h1 j hj).1, (h1 j hj).2, a1, a2, a3, a4, a5, a6, a7, a8, a9, b1⟩
  · exact (hX j hj).2.2.2.2.2.2.2.2.2.2
  · obtain ⟨nm, pl, nms, pls, tys, ps, N, rs, bd, sg, hq9r⟩ := h3 i hi
    obtain ⟨d, gn, T, K0, -, -, -, -, -, -, hq9r⟩ := hq9r
    obtain ⟨-, -, -, -, -, -, -, c1, -⟩ := hq9r
    obtain ⟨nm', pl', nms', pls', tys', ps', N', rs', bd', sg', hq9r⟩ := h3 j hj
    obtain ⟨d', gn', T', K0', -, -, -, -, -, -, hq9r⟩ := hq9r
    obtain ⟨-, -, -, -, -, -, -, c2, -⟩ := hq9r
    exact h4 i j (fa j) hi hj (e ▸ c1) c2
/-- a signature is written down -/
theorem fte_sg {k : Nat} {s : Int32} (h : fte L f cr cpn cpb fc gc gv tk n g fa kf nmf plf nsf lsf yf psf Nf rsf bf Tf df sgf) (hf : ffp L f cpn n df bf) (hi : inj9 n fa) (hk : (k : Int) < n) : fte L (va_up f (fa k) (.inr (14, [nmf k, .int (plf k), .ref (nsf k), .ref (lsf k), .ref (yf k), .int (psf k), .int (Nf k), .int (rsf k), .ref (bf k), .int s]))) cr cpn cpb fc gc gv tk n g fa kf nmf plf nsf lsf yf psf Nf rsf bf Tf df (upd sgf k s) ∧ ffp L (va_up f (fa k) (.inr (14, [nmf k, .int (plf k), .ref (nsf k), .ref (lsf k), .ref (yf k), .int (psf k), .int (Nf k), .int (rsf k), .ref (bf k), .int s]))) cpn n df bf := by
  have hc := cgs.up14 (vs2 := [nmf k, .int (plf k), .ref (nsf k), .ref (lsf k), .ref (yf k), .int (psf k), .int (Nf k), .int (rsf k), .ref (bf k), .int s]) (cpn := cpn) (cpb := cpb) (K := fun _ => False) (M := fun _ => True) (h k hk).2.2.1.2 trivial
  refine ⟨fun j hj => ?_, fun j hj => ?_⟩
  · obtain ⟨a1, a2, ⟨a3, a4⟩, ⟨a5, a6⟩, a7, a8, a9, b1, b2, b3, b4, b5⟩ := h j hj
    obtain ⟨K0, hK0⟩ := hf j hj
    have e1 : va_up f (fa k) (.inr (14, [nmf k, .int (plf k), .ref (nsf k), .ref (lsf k), .ref (yf k), .int (psf k), .int (Nf k), .int (rsf k), .ref (bf k), .int s])) (yf j) = .inl (cr, 51, .inl (Tf j)) := up_a a6 (h k hk).2.2.1.2
    refine ⟨a1, a2, ⟨a3, ?_⟩, ⟨a5, e1⟩, hc.2.nm a7, a8, a9, b1, b2, b3, b4, ts_kp hc.2 (Int.le_refl _) (df j) (fun x hx q => q) hK0 b5⟩
    by_cases q : j = k
    · subst q
      rw [va_up_self, pk_us]
    · rw [va_up_ne _ _ (fun z => q (hi j k hj hk z)), pk_un q]
      exact a4
  · obtain ⟨K0, hK0⟩ := hf j hj
    exact ⟨K0, hc.2.fp _ hK0⟩
theorem nmP_hsh {nm : Value} (h : hsh f f2) (hs : nmP L f cpb nm) : nmP L f2 cpb nm := by
  obtain ⟨s, nb, e, h1, h2⟩ := hs
  exact ⟨s, nb, e, h.s h1, h2⟩
theorem fte_hsh (hh : hsh f f2) (h : fte L f cr cpn cpb fc gc gv tk n g fa kf nmf plf nsf lsf yf psf Nf rsf bf Tf df sgf) : fte L f2 cr cpn cpb fc gc gv tk n g fa kf nmf plf nsf lsf yf psf Nf rsf bf Tf df sgf := fun j hj => by
  obtain ⟨a1, a2, ⟨a3, a4⟩, ⟨a5, a6⟩, a7, a8, a9, b1, b2, b3, b4, b5⟩ := h j hj
  exact ⟨a1, a2, ⟨a3, hh.n (by decide) a4⟩, ⟨a5, hh.a a6⟩, nmP_hsh hh a7, a8, a9, b1, b2, b3, b4, ts_hsh hh _ b5⟩
end FTE

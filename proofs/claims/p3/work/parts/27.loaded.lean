/-! a module that may be run: what the machine asks of its tables -/
def mo_ok (fc gc : Int) (gwaf gwat gwag gcfi gclk gcop gcpt gcel gcla : Nat → Int32) (gcva : Nat → Int64) : Prop :=
  ∃ (an : mc_A) (nl gv tk : Nat → Int),
    (∀ f : Nat, (f : Int) < fc → f < 30 ∧ 0 ≤ (gwaf f).toInt ∧ (gwaf f).toInt < 20) ∧
    (∀ f : Nat, (f : Int) < fc → gv f = if (gwag (gwaf f).toNatClampNeg).toInt = 64 then 0 else 1) ∧
    (∀ f : Nat, (f : Int) < fc → nl f = (gwat (gwaf f).toNatClampNeg).toInt + (gclk f).toInt ∧ 0 ≤ (gwat (gwaf f).toNatClampNeg).toInt ∧ (gwat (gwaf f).toNatClampNeg).toInt ≤ 8 ∧ 0 ≤ (gclk f).toInt ∧ (gclk f).toInt ≤ 60) ∧
    (∀ f : Nat, (f : Int) < fc → tk f = (gwat (gwaf f).toNatClampNeg).toInt) ∧
    (∀ f : Nat, (f : Int) < fc → 0 ≤ (gcfi f).toInt ∧ an (gcfi f).toInt.toNat = some (f, [], 0)) ∧ gc ≤ 20 ∧
    ∀ (i f : Nat) (bs : List (Nat × Int)) (h : Int), an i = some (f, bs, h) → (f : Int) < fc ∧ 0 ≤ h ∧ mc_at an nl gv tk fc gc gcop gcpt gcel gcla gcva i f bs h
section MO
variable {nl gv tk : Nat → Int} {fc gc lc len : Int} {gwaf gwat gwap gwag gcfi gclk gclt gcop gcpt gcel gcla : Nat → Int32} {gcva : Nat → Int64}
theorem mo_mono (hc : ∀ f : Nat, (f : Int) < fc → (gcfi f).toInt ≤ (gcfi (f + 1)).toInt) {f1 : Nat} : ∀ k : Nat, ((f1 + 1 + k : Nat) : Int) ≤ fc → (gcfi (f1 + 1)).toInt ≤ (gcfi (f1 + 1 + k)).toInt
  | 0, _ => Int.le_refl _
  | k + 1, h => by
    have w := mo_mono hc (f1 := f1) k (by omega)
    have q := hc (f1 + 1 + k) (by omega)
    rw [show f1 + 1 + (k + 1) = f1 + 1 + k + 1 by omega]
    omega
theorem mo_of (hgc : gc ≤ 20) (hfn : ∀ f : Nat, (f : Int) < fc → f < 30) (hwf : ∀ f : Nat, (f : Int) < fc → vw_fun gwaf gwat gwap gclk gclt f) (hgv : ∀ f : Nat, (f : Int) < fc → gv f = if (gwag (gwaf f).toNatClampNeg).toInt = 64 then 0 else 1) (hnl : ∀ f : Nat, (f : Int) < fc → nl f = (gwat (gwaf f).toNatClampNeg).toInt + (gclk f).toInt) (htk : ∀ f : Nat, (f : Int) < fc → tk f = (gwat (gwaf f).toNatClampNeg).toInt)
    (hC : rd_C fc len lc gcfi gclk gclt gcop gcpt gcel gcva) (hl5 : len ≤ 5000) (hlc : lc ≤ 2000) (hla : ∀ j : Nat, (j : Int) < lc → 0 ≤ (gcla j).toInt) (hv : ∀ f : Nat, (f : Int) < fc → vfin nl gv tk fc gc f gcop gcpt gcel gcva lc (gcfi f).toNatClampNeg ((gcfi (f + 1)).toNatClampNeg - 1)) :
    mo_ok fc gc gwaf gwat gwag gcfi gclk gcop gcpt gcel gcla gcva := by
  have h1 : ∀ f : Nat, ∃ q : (Nat → List Nat) × (Nat → List vt) × (Nat → Int), (f : Int) < fc → rs_I (gcfi f).toNatClampNeg ((gcfi (f + 1)).toNatClampNeg - 1) gcop gcpt gcel gcva lc q.1 ∧ q.1 ((gcfi (f + 1)).toNatClampNeg - 1) = [] ∧ (gcop ((gcfi (f + 1)).toNatClampNeg - 1)).toInt = 11 ∧ vI nl gv tk fc gc f gcop gcva (gcfi f).toNatClampNeg ((gcfi (f + 1)).toNatClampNeg - 1) ((gcfi (f + 1)).toNatClampNeg - 1) q.2.1 q.2.2 := by
    intro f
    by_cases hf : (f : Int) < fc
    · obtain ⟨sb, B, hh, k⟩ := hv f hf
      exact ⟨(sb, B, hh), fun _ => k⟩
    · exact ⟨(fun _ => [], fun _ => [], fun _ => 0), fun z => absurd z hf⟩
  obtain ⟨Q, hQ⟩ := Classical.axiomOfChoice h1
  have hcm : ∀ f : Nat, (f : Int) < fc → 0 ≤ (gcfi f).toInt ∧ (gcfi f).toInt < (gcfi (f + 1)).toInt ∧ (gcfi (f + 1)).toInt ≤ len := by
    intro f hf
    obtain ⟨a1, a2, a3, ⟨sb, a4, -⟩, -⟩ := hC.1 f hf
    have c1 := i32_clamp (x := gcfi f) a1
    have c2 := i32_clamp (x := gcfi (f + 1)) (by omega)
    exact ⟨a1, by omega, a3⟩
  obtain ⟨an, ean⟩ : ∃ an : mc_A, an = fun (i : Nat) => match (List.range 30).find? (fun f : Nat => decide ((f : Int) < fc) && decide ((gcfi f).toInt ≤ (i : Int)) && decide ((i : Int) < (gcfi (f + 1)).toInt)) with | some f => vann f gcop (Q f).1 (Q f).2.1 (Q f).2.2 i | none => none := ⟨_, rfl⟩
  have hin : ∀ (f i : Nat), (f : Int) < fc → (gcfi f).toInt ≤ (i : Int) → (i : Int) < (gcfi (f + 1)).toInt → an i = vann f gcop (Q f).1 (Q f).2.1 (Q f).2.2 i := by
    intro f i hf i1 i2
    rw [ean]
    dsimp only
    cases e : (List.range 30).find? (fun f : Nat => decide ((f : Int) < fc) && decide ((gcfi f).toInt ≤ (i : Int)) && decide ((i : Int) < (gcfi (f + 1)).toInt)) with
    | none =>
      have := List.find?_eq_none.mp e f (List.mem_range.mpr (hfn f hf))
      simp [hf, i1, i2] at this
    | some f2 =>
      have p := List.find?_some e
      simp only [Bool.and_eq_true, decide_eq_true_eq] at p
      obtain ⟨⟨p1, p2⟩, p3⟩ := p
      have hc : ∀ f : Nat, (f : Int) < fc → (gcfi f).toInt ≤ (gcfi (f + 1)).toInt := fun f h => by have := hcm f h; omega
      have e2 : f2 = f := by
        rcases Nat.lt_trichotomy f2 f with w | w | w
        · have := mo_mono hc (f1 := f2) (f - (f2 + 1)) (by omega)
          rw [show f2 + 1 + (f - (f2 + 1)) = f by omega] at this
          omega
        · exact w
        · have := mo_mono hc (f1 := f) (f2 - (f + 1)) (by omega)
          rw [show f + 1 + (f2 - (f + 1)) = f2 by omega] at this
          omega
      rw [e2]
  have hout : ∀ (i f : Nat) (bs : List (Nat × Int)) (h : Int), an i = some (f, bs, h) → ∃ f2 : Nat, (f2 : Int) < fc ∧ (gcfi f2).toInt ≤ (i : Int) ∧ (i : Int) < (gcfi (f2 + 1)).toInt := by
    intro i f bs h e
    rw [ean] at e
    dsimp only at e
    cases e9 : (List.range 30).find? (fun f : Nat => decide ((f : Int) < fc) && decide ((gcfi f).toInt ≤ (i : Int)) && decide ((i : Int) < (gcfi (f + 1)).toInt)) with
    | none => rw [e9] at e; cases e
    | some f2 =>
      have p := List.find?_some e9
      simp only [Bool.and_eq_true, decide_eq_true_eq] at p
      exact ⟨f2, p.1.1, p.1.2, p.2⟩
  refine ⟨an, nl, gv, tk, fun f hf => ⟨hfn f hf, (hwf f hf).1⟩, hgv, fun f hf => ⟨hnl f hf, (hwf f hf).2.1⟩, htk, fun f hf => ?_, hgc, fun i f bs h e => ?_⟩
  · obtain ⟨c1, c2, c3⟩ := hcm f hf
    refine ⟨c1, ?_⟩
    obtain ⟨s1, s2, s3, k1, k2, k3, k4, k5⟩ := hQ f hf
    have cc := i32_clamp (x := gcfi f) c1
    have cd := i32_clamp (x := gcfi (f + 1)) (by omega)
    rw [hin f _ hf (by omega) (by omega), show (gcfi f).toInt.toNat = (gcfi f).toNatClampNeg from (i32_natI rfl).symm, vann_live (nl := nl) (gv := gv) (tk := tk) (fc := fc) (gc := gc) (gva := gcva) s2 (fun q => k1 _ (Nat.le_refl _) q q) (by omega) k5, s1.2.1, k4]
    rfl
  · obtain ⟨f2, hf, i1, i2⟩ := hout i f bs h e
    obtain ⟨c1, c2, c3⟩ := hcm f2 hf
    have cc := i32_clamp (x := gcfi f2) c1
    have cd := i32_clamp (x := gcfi (f2 + 1)) (by omega)
    obtain ⟨s1, s2, s3, k1, k2, k3, k4, k5⟩ := hQ f2 hf
    obtain ⟨e1, e2, e3⟩ := vn_at (a := (gcfi f2).toNatClampNeg) (m := (gcfi (f2 + 1)).toNatClampNeg - 1) (f := f2) (nl := nl) (gv := gv) (tk := tk) (fc := fc) (gc := gc) (gla := gcla) (an := an) s1 s2 s3 (by omega) (fun j j1 j2 => k1 j j1 j2 j2) k3 (fun j j1 j2 => k2 j j1 j2 j2) (by have w := (hwf f2 hf).2.1; rw [hnl f2 hf]; omega) hlc hla (fun j j1 j2 => hin f2 j hf (by omega) (by omega)) (by omega) (by omega) e
    rw [e1]
    exact ⟨hf, e2, e3⟩
theorem vw_of {tc : Int} (hT : rd_T tc gwat gwap) (htc : tc ≤ 20) (hF : rd_F fc gwaf) (hC : rd_C fc len lc gcfi gclk gclt gcop gcpt gcel gcva) (hw : ∀ f : Nat, (f : Int) < fc → (gwaf f).toInt < tc) : ∀ f : Nat, (f : Int) < fc → vw_fun gwaf gwat gwap gclk gclt f := by
  intro f hf
  have h0 := hF f hf
  have h1 := hw f hf
  have c1 := i32_clamp (x := gwaf f) h0
  obtain ⟨-, -, -, -, b1, b2, b3⟩ := hC.1 f hf
  obtain ⟨t1, t2⟩ := hT.1 (gwaf f).toNatClampNeg (by omega)
  refine ⟨⟨h0, by omega⟩, ⟨t1, t2, b1, b2⟩, fun j hj => ?_, b3⟩
  have e1 : (8 * (gwaf f).toInt + (j : Int)).toNat / 8 = (gwaf f).toNatClampNeg := by omega
  exact hT.2 _ (by omega) (by rw [e1]; omega)
end MO

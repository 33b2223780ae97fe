/-! the reference: what was compiled runs, as its machine knows it -/
def cxq (Q : Nat → List (Nat × Nat) → List ci → Prop) (cfi mlc gop : Nat → Int32) (gva : Nat → Int64) (f : Nat) : Prop :=
  ∃ (R : List (Nat × Nat)) (l : List ci), Q f R l ∧ (mlc f).toInt = (rsum R : Int) ∧ 0 ≤ (cfi f).toInt ∧ (cfi (f + 1)).toInt = (cfi f).toInt + (l.length : Int) + 1 ∧ mtc gop gva (cfi f).toNatClampNeg (l ++ [(11, 0)])
theorem cxq_ext {Q : Nat → List (Nat × Nat) → List ci → Prop} {cfi mlc gop cfi2 mlc2 gop2 : Nat → Int32} {gva gva2 : Nat → Int64} {f : Nat} (h : cxq Q cfi mlc gop gva f) (e1 : cfi2 f = cfi f) (e2 : cfi2 (f + 1) = cfi (f + 1)) (e3 : mlc2 f = mlc f) (e4 : ∀ j : Nat, (j : Int) < (cfi (f + 1)).toInt → gop2 j = gop j ∧ gva2 j = gva j) : cxq Q cfi2 mlc2 gop2 gva2 f := by
  obtain ⟨R, l, q1, q3, q4, q5, q6⟩ := h
  refine ⟨R, l, q1, by rw [e3]; exact q3, by rw [e1]; exact q4, by rw [e1, e2]; exact q5, fun i x hx => ?_⟩
  have hi : i < (l ++ [((11 : Int), (0 : Int))]).length := (List.getElem?_eq_some_iff.mp hx).1
  rw [List.length_append, List.length_singleton] at hi
  have c := i32_clamp (x := cfi f) q4
  have w := e4 ((cfi f).toNatClampNeg + i) (by omega)
  rw [e1, w.1, w.2]
  exact q6 i x hx
def Qc (gv tk gg : Nat → Int) (fc gc : Int) (f : Nat) (R : List (Nat × Nat)) (l : List ci) : Prop := ∃ B h, cz (tk f + (rsum R : Int)) gv tk fc gc l [(0, gg f, 0, 0)] 0 B h ∧ fz B h
/-- a function's pictures -/
def vfz (nl gv tk : Nat → Int) (fc gc g0 : Int) (f : Nat) (gop gpt gel : Nat → Int32) (gva : Nat → Int64) (lc : Int) (a m : Nat) (sb : Nat → List Nat) (B : Nat → List vt) (hh : Nat → Int) : Prop :=
  rs_I a m gop gpt gel gva lc sb ∧ sb m = [] ∧ (gop m).toInt = 11 ∧ (∀ i, a ≤ i → i < m → vr nl gv tk fc gc f (gop i).toInt (gva i).toInt (B i) (hh i) (B (i + 1)) (hh (i + 1))) ∧ (∀ i, a ≤ i → i < m → lz ((gop i).toInt, (gva i).toInt) (B i) (hh i)) ∧ fz (B m) (hh m) ∧ B a = [(0, g0, 0, 0)] ∧ hh a = 0 ∧ ∀ i, a ≤ i → i ≤ m → 0 ≤ hh i ∧ ∀ x ∈ B i, 0 ≤ x.2.2.1
theorem lz_v {op v v2 h : Int} {B : List vt} (H : lz (op, v) B h) (e : op = 12 ∨ op = 13 → v2 = v) : lz (op, v2) B h := by
  obtain ⟨o, g, hb, d, R, eB, ⟨h1, h2, h3⟩, h4⟩ := H
  exact ⟨o, g, hb, d, R, eB, ⟨fun z => by have q := e (Or.inl z); subst q; exact h1 z, fun z => by have q := e (Or.inr z); subst q; exact h2 z, h3⟩, h4⟩
theorem vfz_of {gv tk nl gg : Nat → Int} {fc gc lc : Int} {cfi mlc gop gpt gel : Nat → Int32} {gva : Nat → Int64} {f : Nat} (h : cxq (Qc gv tk gg fc gc) cfi mlc gop gva f) (hn : nl f = tk f + (mlc f).toInt) (hr : rc_fin (cfi f).toNatClampNeg (cfi (f + 1)).toNatClampNeg gop gpt gel gva lc) : ∃ q : (Nat → List Nat) × (Nat → List vt) × (Nat → Int), vfz nl gv tk fc gc (gg f) f gop gpt gel gva lc (cfi f).toNatClampNeg ((cfi (f + 1)).toNatClampNeg - 1) q.1 q.2.1 q.2.2 := by
  obtain ⟨R, l, ⟨B, hh, q2, qf⟩, q3, q4, q5, q6⟩ := h
  obtain ⟨sb, r1, r2, r3, r4⟩ := hr
  obtain ⟨Bs, hs, e1, e2, e4, e5, e3⟩ := cz_seq q2
  have c1_ := i32_clamp (x := cfi f) q4
  have c2_ := i32_clamp (x := cfi (f + 1)) (by omega)
  obtain ⟨a, ea⟩ : ∃ a, a = (cfi f).toNatClampNeg := ⟨_, rfl⟩
  obtain ⟨m, em⟩ : ∃ m, m = (cfi (f + 1)).toNatClampNeg - 1 := ⟨_, rfl⟩
  rw [← em] at r2 r3 r4 ⊢
  rw [← ea] at r2 q6 ⊢
  have hm : m = a + l.length := by omega
  have st : ∀ i, i < l.length → ∃ x, l[i]? = some x ∧ c1z (tk f + (rsum R : Int)) gv tk fc gc x (Bs i) (hs i) (Bs (i + 1)) (hs (i + 1)) := fun i hi => ⟨l[i], List.getElem?_eq_getElem hi, e3 i l[i] (List.getElem?_eq_getElem hi)⟩
  refine ⟨(sb, fun j => Bs (j - a), fun j => hs (j - a)), r2, r3, r4, fun j j1 j2 => ?_, fun j j1 j2 => ?_, ?_, ?_, ?_, fun j j1 j2 => ?_⟩
  · dsimp only
    obtain ⟨x, hx, hc⟩ := st (j - a) (by omega)
    have hx2 : (l ++ [((11 : Int), (0 : Int))])[j - a]? = some x := by rw [List.getElem?_append_left (by omega)]; exact hx
    obtain ⟨w1, w2⟩ := q6 (j - a) x hx2
    rw [show a + (j - a) = j by omega] at w1 w2
    rw [show j + 1 - a = j - a + 1 by omega, w1]
    have v1 := vr_nl (nl := nl) (f := f) hc.1.1 (by rw [hn, q3])
    by_cases z : x.1 = 65 ∨ x.1 = 66 ∨ x.1 = 40 ∨ x.1 = 41 ∨ x.1 = 44 ∨ x.1 = 45 ∨ x.1 = 54 ∨ x.1 = 55 ∨ x.1 = 58
    · exact vr_v v1 (by omega)
    · rw [w2 (by omega) (by omega) (by omega)]
      exact v1
  · dsimp only
    obtain ⟨x, hx, hc⟩ := st (j - a) (by omega)
    have hx2 : (l ++ [((11 : Int), (0 : Int))])[j - a]? = some x := by rw [List.getElem?_append_left (by omega)]; exact hx
    obtain ⟨w1, w2⟩ := q6 (j - a) x hx2
    rw [show a + (j - a) = j by omega] at w1 w2
    rw [w1]
    obtain ⟨x1, x2⟩ := x
    exact lz_v hc.2 (fun z => w2 (by dsimp only; omega) (by dsimp only; omega) (by dsimp only; omega))
  · show fz (Bs (m - a)) (hs (m - a))
    rw [show m - a = l.length by omega, e4, e5]
    exact qf
  · show Bs (a - a) = _
    rw [Nat.sub_self, e1]
  · show hs (a - a) = 0
    rw [Nat.sub_self, e2]
  · dsimp only
    by_cases z : j = a
    · rw [z, Nat.sub_self, e1, e2]
      refine ⟨Int.le_refl _, fun y hy => ?_⟩
      rw [List.mem_singleton.mp hy]
      exact Int.le_refl _
    · obtain ⟨x, hx, hc⟩ := st (j - a - 1) (by omega)
      rw [show j - a - 1 + 1 = j - a by omega] at hc
      exact hc.1.2
section RKZ
variable {rt nl gv tk gg : Nat → Int} {fc gc cu : Int} {b en el mca mpc mre mlc : Nat → Int32} {mto : Nat → Int64} {M2 : Nat → Nat → Int32} {n lc : Int32} {cfi gop gpt gel gla : Nat → Int32} {gva : Nat → Int64} {pos : Nat → Nat}
set_option maxHeartbeats 4000000 in
theorem rko_comp (hby : ∀ j, -128 ≤ (b j).toInt ∧ (b j).toInt ≤ 127) (hC : mdc b en el mca mlc M2 fc cu n lc cfi gop gpt gel gla gva pos) (hX : ∀ f : Nat, (f : Int) < fc → (0 ≤ (mto f).toInt ∧ (mto f).toInt < 20) ∧ tk f = (mpc (mto f).toInt.toNat).toInt ∧ (rt f = 0 ↔ (mre (mto f).toInt.toNat).toInt = 0) ∧ (rt f = 0 ∨ rt f = 126) ∧ gv f = ga0 (rt f) ∧ nl f = tk f + (mlc f).toInt ∧ (rt f ≠ 0 → gg f ≠ 64)) (hfn : ∀ f : Nat, (f : Int) < fc → f < 30) (hcu : cu ≤ 32000)
    (hv : ∀ f : Nat, (f : Int) < fc → cxq (Qc gv tk gg fc gc) cfi mlc gop gva f) : ∃ an, rko b en el mca mpc mre mlc mto fc gc (fun _ _ => 126) (fun _ _ => 126) rt nl gv tk (fun _ => 126) an pos gop gpt gel gla gva := by
  have h1 : ∀ f : Nat, ∃ q : (Nat → List Nat) × (Nat → List vt) × (Nat → Int), (f : Int) < fc → vfz nl gv tk fc gc (gg f) f gop gpt gel gva lc.toInt (cfi f).toNatClampNeg ((cfi (f + 1)).toNatClampNeg - 1) q.1 q.2.1 q.2.2 := by
    intro f
    by_cases hf : (f : Int) < fc
    · obtain ⟨-, -, -, hF, -⟩ := hC.2.2 f hf
      obtain ⟨q, hq⟩ := vfz_of (nl := nl) (hv f hf) (hX f hf).2.2.2.2.2.1 hF.1
      exact ⟨q, fun _ => hq⟩
    · exact ⟨(fun _ => [], fun _ => [], fun _ => 0), fun z => absurd z hf⟩
  obtain ⟨Q, hQ⟩ := Classical.axiomOfChoice h1
  have hcm : ∀ f : Nat, (f : Int) < fc → 0 ≤ (cfi f).toInt ∧ (cfi f).toInt < (cfi (f + 1)).toInt ∧ (cfi (f + 1)).toInt ≤ n.toInt := by
    intro f hf
    obtain ⟨a1, a2, a3, ⟨⟨sb, a4, -⟩, -⟩, -⟩ := hC.2.2 f hf
    have c1 := i32_clamp (x := cfi f) a1
    have c2 := i32_clamp (x := cfi (f + 1)) (by omega)
    exact ⟨a1, by omega, a3⟩
  obtain ⟨fF, efF⟩ : ∃ fF : Nat → Option Nat, fF = fun (i : Nat) => (List.range 30).find? (fun f : Nat => decide ((f : Int) < fc) && decide ((cfi f).toInt ≤ (i : Int)) && decide ((i : Int) < (cfi (f + 1)).toInt)) := ⟨_, rfl⟩
  have hin : ∀ (f i : Nat), (f : Int) < fc → (cfi f).toInt ≤ (i : Int) → (i : Int) < (cfi (f + 1)).toInt → fF i = some f := by
    intro f i hf i1 i2
    rw [efF]
    dsimp only
    cases e : (List.range 30).find? (fun f : Nat => decide ((f : Int) < fc) && decide ((cfi f).toInt ≤ (i : Int)) && decide ((i : Int) < (cfi (f + 1)).toInt)) with
    | none =>
      have := List.find?_eq_none.mp e f (List.mem_range.mpr (hfn f hf))
      simp [hf, i1, i2] at this
    | some f2 =>
      have p := List.find?_some e
      simp only [Bool.and_eq_true, decide_eq_true_eq] at p
      obtain ⟨⟨p1, p2⟩, p3⟩ := p
      have hc : ∀ f : Nat, (f : Int) < fc → (cfi f).toInt ≤ (cfi (f + 1)).toInt := fun f h => by have := hcm f h; omega
      have e2 : f2 = f := by
        rcases Nat.lt_trichotomy f2 f with w | w | w
        · have := mo_mono hc (f1 := f2) (f - (f2 + 1)) (by omega)
          rw [show f2 + 1 + (f - (f2 + 1)) = f by omega] at this
          omega
        · exact w
        · have := mo_mono hc (f1 := f) (f2 - (f + 1)) (by omega)
          rw [show f + 1 + (f2 - (f + 1)) = f2 by omega] at this
          omega
      rw [e2]
  have hout : ∀ (i f : Nat), fF i = some f → (f : Int) < fc ∧ (cfi f).toInt ≤ (i : Int) ∧ (i : Int) < (cfi (f + 1)).toInt := by
    intro i f e
    rw [efF] at e
    have p := List.find?_some e
    simp only [Bool.and_eq_true, decide_eq_true_eq] at p
    exact ⟨p.1.1, p.1.2, p.2⟩
  obtain ⟨an, ean⟩ : ∃ an : mc_A, an = fun (i : Nat) => match fF i with | some f => wann f (Q f).1 (Q f).2.1 (Q f).2.2 i | none => none := ⟨_, rfl⟩
  have han : ∀ (f i : Nat), (f : Int) < fc → (cfi f).toInt ≤ (i : Int) → (i : Int) < (cfi (f + 1)).toInt → an i = wann f (Q f).1 (Q f).2.1 (Q f).2.2 i := by
    intro f i hf i1 i2
    rw [ean]
    dsimp only
    rw [hin f i hf i1 i2]
  refine ⟨an, hby, fun f hf => ?_, fun g hg => Or.inr rfl, fun i f bs h e => ?_⟩
  · obtain ⟨x1, x3, x4, x5, x6, x7, x8⟩ := hX f hf
    obtain ⟨c1, c2, c3⟩ := hcm f hf
    obtain ⟨q1, q2, q3, q4, q5, q6, q7, q8, q9⟩ := hQ f hf
    obtain ⟨-, -, -, -, mp, -⟩ := hC.2.2 f hf
    have z1 := i32_clamp (x := cfi f) c1
    refine ⟨x1, x3, x4, by omega, x6, x7, fun k hk => Or.inr rfl, (cfi f).toNatClampNeg, ?_, mp⟩
    rw [han f _ hf (by omega) (by omega), wann_live (by rw [q7]; rfl), q8, q1.2.1]
    rfl
  · have e0 := e
    rw [ean] at e
    dsimp only at e
    cases ef : fF i with
    | none => rw [ef] at e; cases e
    | some f2 =>
      rw [ef] at e
      dsimp only at e
      obtain ⟨hf2, i1, i2⟩ := hout i f2 ef
      obtain ⟨c1, c2, c3⟩ := hcm f2 hf2
      have z1 := i32_clamp (x := cfi f2) c1
      have z2 := i32_clamp (x := cfi (f2 + 1)) (by omega)
      obtain ⟨q1, q2, q3, q4, q5, q6, q7, q8, q9⟩ := hQ f2 hf2
      obtain ⟨-, -, -, hF, mp, mpo, -⟩ := hC.2.2 f2 hf2
      obtain ⟨a, ea⟩ : ∃ a, a = (cfi f2).toNatClampNeg := ⟨_, rfl⟩
      obtain ⟨m, em⟩ : ∃ m, m = (cfi (f2 + 1)).toNatClampNeg - 1 := ⟨_, rfl⟩
      have em1 : (cfi (f2 + 1)).toNatClampNeg = m + 1 := by omega
      rw [em1] at hF mpo
      rw [← ea] at hF mpo q1 q4 q5 mp q7 q8 q9
      rw [← em] at q1 q2 q3 q4 q5 q6 q9
      obtain ⟨w1, w2, w3, w4⟩ := wann_inv e
      subst w1
      have hlkd : ∀ j, a ≤ j → j ≤ m → lkD b pos gop gpt gla gva j := fun j j1 j2 => (hF.2 j j1 (by omega)).2.1
      have main := wz_at (gla := gla) (rt := rt) q1 q2 q3 q4 q5 q6 q7 (hX f hf2).2.2.2.1 (hX f hf2).2.2.2.2.2.2 q9 (fun j j1 j2 => han f j hf2 (by omega) (by omega)) (show a ≤ i by omega) (show i ≤ m by omega) e0
      have hpp : ∀ j, a ≤ j → j < m + 1 → (pos j : Int) < 32000 := fun j j1 j2 => by have := mpo j j1 j2; omega
      refine ⟨hf2, main.2.1, main.2.2, hlkd i (by omega) (by omega), rs_val_le (vf_val q1 q3 (by omega) (by omega)) (by have := hC.1; omega), by have := hpp i (by omega) (by omega); omega, fun z => rkb_of hF q1 q2 q3 hpp (by omega) (by omega) z, fun x hx => ?_, fun z => ?_⟩
      · rw [w2] at hx
        obtain ⟨k, hk⟩ := List.getElem?_of_mem hx
        obtain ⟨y, e1, e2, e3⟩ := vzp_get hk
        obtain ⟨b1, b2, b3⟩ := (q1.2.2.1 i (by omega) (by omega)).1 x.1 (List.mem_of_getElem? e1)
        exact ⟨by rw [e3]; exact (q9 i (by omega) (by omega)).2 y (List.mem_of_getElem? e2), rkb_of hF q1 q2 q3 hpp b1 (by omega) b3⟩
      · have him : i < m := by
          rcases Nat.lt_or_eq_of_le (show i ≤ m by omega) with q | q
          · exact q
          · exact absurd ⟨by rw [q]; exact q3, by rw [w2, q, q2]; rfl⟩ z
        rw [((hF.2 i (by omega) (by omega)).1 (by omega)).2]
end RKZ

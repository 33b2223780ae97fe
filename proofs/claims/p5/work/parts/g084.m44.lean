/-! the reference: a module that was read and found valid runs -/
section RKO
variable {lt : Nat → Nat → Int} {rt nl gv tk gt : Nat → Int} {fc gc cu : Int} {b en el mca mpc mre mlc mgt : Nat → Int32} {mto : Nat → Int64} {M1 M2 : Nat → Nat → Int32} {n lc : Int32} {cfi gop gpt gel gla : Nat → Int32} {gva : Nat → Int64} {pos : Nat → Nat}
theorem rkb_of {a m x : Nat} {l : Int} {sb : Nat → List Nat} (hF : ckF b en el a (m + 1) l gop gpt gel gla gva pos) (hI : rs_I a m gop gpt gel gva l sb) (hm : sb m = []) (hmo : (gop m).toInt = 11) (hp : ∀ j, a ≤ j → j < m + 1 → (pos j : Int) < 32000) (h1 : a ≤ x) (h2 : x ≤ m) (hb : blk3 (gop x).toInt) : rkb b en el pos gop gpt gel gla gva x := by
  have hb' := hb
  unfold blk3 at hb'
  have hxm : x < m := by
    rcases Nat.lt_or_eq_of_le h2 with q | q
    · exact q
    · rw [q] at hb'; (first | (apply Int.le_antisymm <;> omega) | omega)
  obtain ⟨v1, v2, v3, v4, v5, v6, v7⟩ := hI.2.2.2 x h1 hxm
  have hs := v2 hb'
  obtain ⟨p, p1, p2, p3, -, p6, -⟩ := rs_close hI hm (m - (x + 1)) (x + 1) (by (first | (apply Int.le_antisymm <;> omega) | omega)) (by (first | (apply Int.le_antisymm <;> omega) | omega)) (show x ∈ sb (x + 1) by rw [hs]; exact List.mem_cons_self)
  obtain ⟨c1, c2, c3⟩ := hF.2 x h1 (by (first | (apply Int.le_antisymm <;> omega) | omega))
  obtain ⟨c4, c5⟩ := c1 (by (first | (apply Int.le_antisymm <;> omega) | omega))
  obtain ⟨k1, k2, k3⟩ := c3 hb
  obtain ⟨k4, -⟩ := k3 (fun z => z)
  have ep : (gpt x).toNatClampNeg = p := i32_nat p6
  obtain ⟨-, d5⟩ := (hF.2 p (by (first | (apply Int.le_antisymm <;> omega) | omega)) (by (first | (apply Int.le_antisymm <;> omega) | omega))).1 (by (first | (apply Int.le_antisymm <;> omega) | omega))
  rw [p3, nxo_11] at d5
  have q1 := hp (p + 1) (by (first | (apply Int.le_antisymm <;> omega) | omega)) (by (first | (apply Int.le_antisymm <;> omega) | omega))
  have q2 := hp (x + 1) (by (first | (apply Int.le_antisymm <;> omega) | omega)) (by (first | (apply Int.le_antisymm <;> omega) | omega))
  rw [nxo_1 (Or.imp_right (Or.imp_right Or.inl) hb')] at c5
  refine ⟨c2, hb, by rw [k4, ep, d5]; (first | (apply Int.le_antisymm <;> omega) | omega), by rw [ep]; (first | (apply Int.le_antisymm <;> omega) | omega), k1, fun g0 => ?_, c5, by (first | (apply Int.le_antisymm <;> omega) | omega)⟩
  have g4 : (gop x).toInt = 4 := by
    by_cases q : (gop x).toInt = 4
    · exact q
    · have := v7 q; (first | (apply Int.le_antisymm <;> omega) | omega)
  rcases v3 g4 with w | ⟨e, e1, e2, e3, e4, -⟩
  · (first | (apply Int.le_antisymm <;> omega) | omega)
  · have ee : (gel x).toNatClampNeg = e := i32_nat e1
    obtain ⟨-, d6⟩ := (hF.2 e (by (first | (apply Int.le_antisymm <;> omega) | omega)) (by (first | (apply Int.le_antisymm <;> omega) | omega))).1 (by (first | (apply Int.le_antisymm <;> omega) | omega))
    rw [e4, nxo_5 rfl] at d6
    have q3 := hp (e + 1) (by (first | (apply Int.le_antisymm <;> omega) | omega)) (by (first | (apply Int.le_antisymm <;> omega) | omega))
    have k5 := k2 g0
    rw [ee] at k5 ⊢
    exact ⟨by (first | (apply Int.le_antisymm <;> omega) | omega), by rw [k5, d6]; (first | (apply Int.le_antisymm <;> omega) | omega), by (first | (apply Int.le_antisymm <;> omega) | omega)⟩
theorem rs_val_le {i : Nat} {l l2 : Int} (h : rs_val gop gpt gva l i) (hl : l ≤ l2) : rs_val gop gpt gva l2 i := ⟨h.1, h.2.1, fun z => by have q := h.2.2.1 z; exact ⟨q.1, q.2.1, by (first | (apply Int.le_antisymm <;> omega) | omega)⟩, h.2.2.2⟩
set_option maxHeartbeats 4000000 in
theorem rko_of (hby : ∀ j, -128 ≤ (b j).toInt ∧ (b j).toInt ≤ 127) (hC : mdc b en el mca mlc M2 fc cu n lc cfi gop gpt gel gla gva pos) (hX : vctx fc gc mpc mre mlc mgt mto M1 M2 lt rt nl gv tk gt) (hfn : ∀ f : Nat, (f : Int) < fc → f < 30) (hcu : cu ≤ 32000)
    (hv : ∀ f : Nat, (f : Int) < fc → vfin2 lt rt nl gv tk gt fc gc f gop gpt gel gla gva lc.toInt (cfi f).toNatClampNeg ((cfi (f + 1)).toNatClampNeg - 1)) : ∃ an T, rko b en el mca mpc mre mlc mto fc gc lt T rt nl gv tk gt an pos gop gpt gel gla gva := by
  have h1 : ∀ f : Nat, ∃ q : (Nat → List Nat) × (Nat → List vt) × (Nat → Int) × (Nat → Nat → Int), (f : Int) < fc → rs_I (cfi f).toNatClampNeg ((cfi (f + 1)).toNatClampNeg - 1) gop gpt gel gva lc.toInt q.1 ∧ q.1 ((cfi (f + 1)).toNatClampNeg - 1) = [] ∧ (gop ((cfi (f + 1)).toNatClampNeg - 1)).toInt = 11 ∧ vI nl gv tk fc gc f gop gva (cfi f).toNatClampNeg ((cfi (f + 1)).toNatClampNeg - 1) ((cfi (f + 1)).toNatClampNeg - 1) q.2.1 q.2.2.1 ∧ ∀ j, (cfi f).toNatClampNeg ≤ j → j ≤ (cfi (f + 1)).toNatClampNeg - 1 → vyj lt rt tk gt f gop gpt gla gva q.2.1 q.2.2.1 q.2.2.2 j := by
    intro f
    by_cases hf : (f : Int) < fc
    · obtain ⟨sb, B, hh, T, k⟩ := hv f hf
      exact ⟨(sb, B, hh, T), fun _ => k⟩
    · exact ⟨(fun _ => [], fun _ => [], fun _ => 0, fun _ _ => 0), fun z => absurd z hf⟩
  obtain ⟨Q, hQ⟩ := Classical.axiomOfChoice h1
  have hcm : ∀ f : Nat, (f : Int) < fc → 0 ≤ (cfi f).toInt ∧ (cfi f).toInt < (cfi (f + 1)).toInt ∧ (cfi (f + 1)).toInt ≤ n.toInt := by
    intro f hf
    obtain ⟨a1, a2, a3, ⟨⟨sb, a4, -⟩, -⟩, -⟩ := hC.2.2 f hf
    have c1 := i32_clamp (x := cfi f) a1
    have c2 := i32_clamp (x := cfi (f + 1)) (by (first | (apply Int.le_antisymm <;> omega) | omega))
    exact ⟨a1, by (first | (apply Int.le_antisymm <;> omega) | omega), a3⟩
  obtain ⟨fF, efF⟩ : ∃ fF : Nat → Option Nat, fF = fun (i : Nat) => (List.range 30).find? (fun f : Nat => decide ((f : Int) < fc) && decide ((cfi f).toInt ≤ (i : Int)) && decide ((i : Int) < (cfi (f + 1)).toInt)) := ⟨_, rfl⟩
  have hin : ∀ (f i : Nat), (f : Int) < fc → (cfi f).toInt ≤ (i : Int) → (i : Int) < (cfi (f + 1)).toInt → fF i = some f := by
    intro f i hf i1 i2
    rw [efF]
    dsimp only
    cases e : (List.range 30).find? (fun f : Nat => decide ((f : Int) < fc) && decide ((cfi f).toInt ≤ (i : Int)) && decide ((i : Int) < (cfi (f + 1)).toInt)) with
    | none =>
      have := List.find?_eq_none.mp e f (List.mem_range.mpr (hfn f hf))
      simp [hf, i1, i2] at this
    | some f2 =>
      have p := List.find?_some e
      simp only [Bool.and_eq_true, decide_eq_true_eq] at p
      obtain ⟨⟨p1, p2⟩, p3⟩ := p
      have hc : ∀ f : Nat, (f : Int) < fc → (cfi f).toInt ≤ (cfi (f + 1)).toInt := fun f h => by have := hcm f h; (first | (apply Int.le_antisymm <;> omega) | omega)
      have e2 : f2 = f := by
        rcases Nat.lt_trichotomy f2 f with w | w | w
        · have := mo_mono hc (f1 := f2) (f - (f2 + 1)) (by (first | (apply Int.le_antisymm <;> omega) | omega))
          rw [show f2 + 1 + (f - (f2 + 1)) = f by (first | (apply Int.le_antisymm <;> omega) | omega)] at this
          (first | (apply Int.le_antisymm <;> omega) | omega)
        · exact w
        · have := mo_mono hc (f1 := f) (f2 - (f + 1)) (by (first | (apply Int.le_antisymm <;> omega) | omega))
          rw [show f + 1 + (f2 - (f + 1)) = f2 by (first | (apply Int.le_antisymm <;> omega) | omega)] at this
          (first | (apply Int.le_antisymm <;> omega) | omega)
      rw [e2]
  have hout : ∀ (i f : Nat), fF i = some f → (f : Int) < fc ∧ (cfi f).toInt ≤ (i : Int) ∧ (i : Int) < (cfi (f + 1)).toInt := by
    intro i f e
    rw [efF] at e
    have p := List.find?_some e
    simp only [Bool.and_eq_true, decide_eq_true_eq] at p
    exact ⟨p.1.1, p.1.2, p.2⟩
  obtain ⟨an, ean⟩ : ∃ an : mc_A, an = fun (i : Nat) => match fF i with | some f => wann f (Q f).1 (Q f).2.1 (Q f).2.2.1 i | none => none := ⟨_, rfl⟩
  obtain ⟨T, eT⟩ : ∃ T : Nat → Nat → Int, T = fun (i : Nat) => match fF i with | some f => (Q f).2.2.2 i | none => fun _ => 126 := ⟨_, rfl⟩
  have han : ∀ (f i : Nat), (f : Int) < fc → (cfi f).toInt ≤ (i : Int) → (i : Int) < (cfi (f + 1)).toInt → an i = wann f (Q f).1 (Q f).2.1 (Q f).2.2.1 i ∧ T i = (Q f).2.2.2 i := by
    intro f i hf i1 i2
    rw [ean, eT]
    dsimp only
    rw [hin f i hf i1 i2]
    exact ⟨rfl, rfl⟩
  refine ⟨an, T, hby, fun f hf => ?_, fun g hg => ?_, fun i f bs h e => ?_⟩
  · obtain ⟨x1, x2, x3, x4, x5, x6, x7, x8, x9⟩ := hX.1 f hf
    obtain ⟨c1, c2, c3⟩ := hcm f hf
    obtain ⟨q1, q2, q3, q4, q5⟩ := hQ f hf
    obtain ⟨-, -, -, -, mp, -⟩ := hC.2.2 f hf
    have z1 := i32_clamp (x := cfi f) c1
    unfold t27 at x5
    refine ⟨⟨x1, x2⟩, x3, by rw [x4], by (first | (apply Int.le_antisymm <;> omega) | omega), x6, x7, fun k hk => ?_, (cfi f).toNatClampNeg, ?_, mp⟩
    · by_cases w : (k : Int) < tk f
      · exact (x8 k w).2
      · exact (x9 k (by (first | (apply Int.le_antisymm <;> omega) | omega)) hk).2
    · rw [(han f _ hf (by (first | (apply Int.le_antisymm <;> omega) | omega)) (by (first | (apply Int.le_antisymm <;> omega) | omega))).1, wann_live q4.2.2.2.2, q4.2.2.2.1, q1.2.1]
      rfl
  · exact (hX.2 g hg).2
  · have e0 := e
    rw [ean] at e
    dsimp only at e
    cases ef : fF i with
    | none => rw [ef] at e; cases e
    | some f2 =>
      rw [ef] at e
      dsimp only at e
      obtain ⟨hf2, i1, i2⟩ := hout i f2 ef
      obtain ⟨c1, c2, c3⟩ := hcm f2 hf2
      have z1 := i32_clamp (x := cfi f2) c1
      have z2 := i32_clamp (x := cfi (f2 + 1)) (by (first | (apply Int.le_antisymm <;> omega) | omega))
      obtain ⟨q1, q2, q3, q4, q5⟩ := hQ f2 hf2
      obtain ⟨-, -, -, hF, mp, mpo, -⟩ := hC.2.2 f2 hf2
      obtain ⟨a, ea⟩ : ∃ a, a = (cfi f2).toNatClampNeg := ⟨_, rfl⟩
      obtain ⟨m, em⟩ : ∃ m, m = (cfi (f2 + 1)).toNatClampNeg - 1 := ⟨_, rfl⟩
      have em1 : (cfi (f2 + 1)).toNatClampNeg = m + 1 := by (first | (apply Int.le_antisymm <;> omega) | omega)
      rw [em1] at hF mpo
      rw [← ea] at hF mpo q1 q4 q5 mp
      rw [← em] at q1 q2 q3 q4 q5
      obtain ⟨w1, w2, w3, w4⟩ := wann_inv e
      subst w1
      have hlkd : ∀ j, a ≤ j → j ≤ m → lkD b pos gop gpt gla gva j := fun j j1 j2 => (hF.2 j j1 (by (first | (apply Int.le_antisymm <;> omega) | omega))).2.1
      have main := wn_at (T := T) (an := an) q1 q2 q3 (fun j j1 j2 => q4.1 j j1 j2 j2) (fun j j1 j2 => ⟨(Q f).2.2.2 (j + 1), fun z => (han f (j + 1) hf2 (by (first | (apply Int.le_antisymm <;> omega) | omega)) (by (first | (apply Int.le_antisymm <;> omega) | omega))).2.symm, by rw [(han f j hf2 (by (first | (apply Int.le_antisymm <;> omega) | omega)) (by (first | (apply Int.le_antisymm <;> omega) | omega))).2]; exact q5 j j1 j2⟩) q4.2.2.1 (fun j j1 j2 => q4.2.1 j j1 j2 j2)
        (fun j j1 j2 z k hk => by rw [((hlkd j j1 (by (first | (apply Int.le_antisymm <;> omega) | omega))).2.2.2 z).2 k hk]; exact uF_0 _ _) (fun j j1 j2 => (han f j hf2 (by (first | (apply Int.le_antisymm <;> omega) | omega)) (by (first | (apply Int.le_antisymm <;> omega) | omega))).1) (show a ≤ i by (first | (apply Int.le_antisymm <;> omega) | omega)) (show i ≤ m by (first | (apply Int.le_antisymm <;> omega) | omega)) e0
      have hpp : ∀ j, a ≤ j → j < m + 1 → (pos j : Int) < 32000 := fun j j1 j2 => by have := mpo j j1 j2; (first | (apply Int.le_antisymm <;> omega) | omega)
      refine ⟨hf2, main.2.1, main.2.2, hlkd i (by (first | (apply Int.le_antisymm <;> omega) | omega)) (by (first | (apply Int.le_antisymm <;> omega) | omega)), rs_val_le (vf_val q1 q3 (by (first | (apply Int.le_antisymm <;> omega) | omega)) (by (first | (apply Int.le_antisymm <;> omega) | omega))) (by have := hC.1; (first | (apply Int.le_antisymm <;> omega) | omega)), by have := hpp i (by (first | (apply Int.le_antisymm <;> omega) | omega)) (by (first | (apply Int.le_antisymm <;> omega) | omega)); (first | (apply Int.le_antisymm <;> omega) | omega), fun z => rkb_of hF q1 q2 q3 hpp (by (first | (apply Int.le_antisymm <;> omega) | omega)) (by (first | (apply Int.le_antisymm <;> omega) | omega)) z, fun x hx => ?_, fun z => ?_⟩
      · rw [w2] at hx
        obtain ⟨k, hk⟩ := List.getElem?_of_mem hx
        obtain ⟨y, e1, e2, e3⟩ := vzp_get hk
        obtain ⟨b1, b2, b3⟩ := (q1.2.2.1 i (by (first | (apply Int.le_antisymm <;> omega) | omega)) (by (first | (apply Int.le_antisymm <;> omega) | omega))).1 x.1 (List.mem_of_getElem? e1)
        exact ⟨by rw [e3]; exact (q4.2.1 i (by (first | (apply Int.le_antisymm <;> omega) | omega)) (by (first | (apply Int.le_antisymm <;> omega) | omega)) (by (first | (apply Int.le_antisymm <;> omega) | omega))).2 y (List.mem_of_getElem? e2), rkb_of hF q1 q2 q3 hpp b1 (by (first | (apply Int.le_antisymm <;> omega) | omega)) b3⟩
      · have him : i < m := by
          rcases Nat.lt_or_eq_of_le (show i ≤ m by (first | (apply Int.le_antisymm <;> omega) | omega)) with q | q
          · exact q
          · exact absurd ⟨by rw [q]; exact q3, by rw [w2, q, q2]; rfl⟩ z
        rw [((hF.2 i (by (first | (apply Int.le_antisymm <;> omega) | omega)) (by (first | (apply Int.le_antisymm <;> omega) | omega))).1 (by (first | (apply Int.le_antisymm <;> omega) | omega))).2]
end RKO

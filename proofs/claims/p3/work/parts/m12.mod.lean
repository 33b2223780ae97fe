/-! the reference: what a module's tables hold once they are read -/
def t27 (x : Int) : Prop := x = 127 ∨ x = 126
def mdT (tc : Int) (mpc mre : Nat → Int32) (M1 : Nat → Nat → Int32) : Prop := ∀ t : Nat, (t : Int) < tc → (∀ p : Nat, (p : Int) < (mpc t).toInt → t27 (M1 t p).toInt) ∧ ((mre t).toInt = 0 ∨ t27 (mre t).toInt)
def mdF (fc : Int) (mto : Nat → Int64) : Prop := ∀ f : Nat, (f : Int) < fc → 0 ≤ (mto f).toInt ∧ (mto f).toInt ≤ 2147483647
def mdG (gc : Int) (mgt mgk : Nat → Int32) (mst : Nat → Int64) : Prop := ∀ g : Nat, (g : Int) < gc → t27 (mgt g).toInt ∧ ((mgk g).toInt = 127 → -2147483648 ≤ (mst g).toInt ∧ (mst g).toInt ≤ 2147483647)
def mdE (ec len : Int) (mna mnl : Nat → Int32) : Prop := ∀ e : Nat, (e : Int) < ec → 0 ≤ (mna e).toInt ∧ 0 ≤ (mnl e).toInt ∧ (mna e).toInt + (mnl e).toInt ≤ len
/-- the codes that were read: their instructions, numbered through -/
def mdc (b en el mca mlc : Nat → Int32) (M2 : Nat → Nat → Int32) (cc cu : Int) (n lc : Int32) (cfi gop gpt gel glb : Nat → Int32) (gva : Nat → Int64) (pos : Nat → Nat) : Prop :=
  (0 ≤ n.toInt ∧ n.toInt ≤ cu ∧ 0 ≤ lc.toInt ∧ lc.toInt ≤ cu) ∧ (cfi cc.toNat).toInt = n.toInt ∧
  ∀ f : Nat, (f : Int) < cc → 0 ≤ (cfi f).toInt ∧ (cfi f).toInt ≤ (cfi (f + 1)).toInt ∧ (cfi (f + 1)).toInt ≤ n.toInt ∧ ckF b en el (cfi f).toNatClampNeg (cfi (f + 1)).toNatClampNeg lc.toInt gop gpt gel glb gva pos ∧ (pos (cfi f).toNatClampNeg : Int) = (mca f).toInt ∧
    (∀ j, (cfi f).toNatClampNeg ≤ j → j < (cfi (f + 1)).toNatClampNeg → (pos j : Int) < cu) ∧ ∀ k : Nat, (k : Int) < (mlc f).toInt → t27 (M2 f k).toInt
def mdC (b en el mca mlc : Nat → Int32) (M2 : Nat → Nat → Int32) (cc cu : Int) : Prop := ∃ (n lc : Int32) (cfi gop gpt gel glb : Nat → Int32) (gva : Nat → Int64) (pos : Nat → Nat), mdc b en el mca mlc M2 cc cu n lc cfi gop gpt gel glb gva pos
section MDC
variable {b en el mca mlc en2 el2 mca2 mlc2 cfi gop gpt gel glb gop2 gpt2 gel2 glb2 : Nat → Int32} {gva gva2 : Nat → Int64} {pos pos2 : Nat → Nat} {M2 M3 : Nat → Nat → Int32} {cc cu cu2 : Int} {n lc n2 lc2 : Int32}
theorem mdC.nil (hc : cc ≤ 0) (hu : 0 ≤ cu) : mdC b en el mca mlc M2 cc cu := by
  have k0 : (0 : Int32).toInt = 0 := by decide
  exact ⟨0, 0, fun _ => 0, fun _ => 0, fun _ => 0, fun _ => 0, fun _ => 0, fun _ => 0, fun _ => 0, ⟨by omega, by omega, by omega, by omega⟩, rfl, fun f hf => absurd hf (by omega)⟩
theorem mdC.up (h : mdC b en el mca mlc M2 cc cu) (hu : cu ≤ cu2) : mdC b en el mca mlc M2 cc cu2 := by
  obtain ⟨n, lc, cfi, gop, gpt, gel, glb, gva, pos, ⟨a1, a2, a3, a4⟩, h2, h3⟩ := h
  refine ⟨n, lc, cfi, gop, gpt, gel, glb, gva, pos, ⟨a1, by omega, a3, by omega⟩, h2, fun f hf => ?_⟩
  obtain ⟨q1, q2, q3, q4, q5, q6, q7⟩ := h3 f hf
  exact ⟨q1, q2, q3, q4, q5, fun j x y => by have := q6 j x y; omega, q7⟩
/-- what was read stays read when more is -/
theorem ckF_keep {a m a0 : Nat} {l l2 lc0 : Int} {start : Nat} (h : ckF b en el a m l gop gpt gel glb gva pos) (hm : m ≤ a0) (hl : l ≤ l2) (hl0 : l ≤ lc0) (hS : ckS a0 lc0 start gop gpt gel glb en el gop2 gpt2 gel2 glb2 en2 el2 gva gva2 pos pos2) (hp : ∀ j, a ≤ j → j < m → pos j < start) : ckF b en2 el2 a m l2 gop2 gpt2 gel2 glb2 gva2 pos2 := by
  obtain ⟨s1, s2, s3, s4, s5⟩ := hS
  obtain ⟨h1, h2⟩ := h
  refine ⟨h1.ext hm hl s1, fun j j1 j2 => ?_⟩
  obtain ⟨q1, q2, q3⟩ := h2 j j1 j2
  obtain ⟨e1, e2, e3, e4⟩ := s1 j (by omega)
  refine ⟨fun z => ?_, lkD_eq q2 (s3 j (by omega)) e1 (fun _ => e2) e4 (fun z k hk => ?_), fun z => ?_⟩
  · rw [s3 j (by omega), s3 (j + 1) (by omega), e1]
    exact q1 z
  · obtain ⟨sb, x1, x2, x3, x4⟩ := h1
    have v : rs_val gop gpt gva l j := by
      by_cases e : j = m - 1
      · subst e; omega
      · exact (x2.2.2.2 j j1 (by omega)).1
    have := v.2.2.1 z
    exact s2 _ (by omega)
  · rw [e1] at z
    have q4 := q3 z
    unfold lkB at q4 ⊢
    rw [e2, e3, s3 j (by omega), (s5 (pos j) (hp j j1 j2)).1, (s5 (pos j) (hp j j1 j2)).2]
    obtain ⟨sb, x1, x2, x3, x4⟩ := h1
    refine ⟨q4.1, fun y => ?_, fun y => ?_⟩
    · have jm : j < m - 1 := by
        by_cases e : j = m - 1
        · subst e; unfold blk3 at z; omega
        · omega
      have := rs_els x2 j1 jm y
      rw [q4.2.1 y, s3 _ (by omega)]
    · obtain ⟨y1, y2⟩ := q4.2.2 y
      exact ⟨by rw [y1, s3 _ (by omega)], y2⟩
theorem mdc_next {k : Int32} {t : Nat} (hk : k.toInt = (t : Int)) (h : mdc b en el mca mlc M2 k.toInt cu n lc cfi gop gpt gel glb gva pos) (hF : ckF b en2 el2 n.toNatClampNeg n2.toNatClampNeg lc2.toInt gop2 gpt2 gel2 glb2 gva2 pos2) (hS : ckS n.toNatClampNeg lc.toInt (mca2 t).toInt.toNat gop gpt gel glb en el gop2 gpt2 gel2 glb2 en2 el2 gva gva2 pos pos2)
    (h1 : n.toInt < n2.toInt) (h2 : n2.toInt ≤ cu2) (h3 : lc.toInt ≤ lc2.toInt) (h4 : lc2.toInt ≤ cu2) (hs : cu ≤ (mca2 t).toInt) (hcu : cu ≤ cu2) (hp : ∀ j, n.toNatClampNeg ≤ j → j < n2.toNatClampNeg → (pos2 j : Int) < cu2) (hm : ∀ j, j ≠ t → mlc2 j = mlc j ∧ mca2 j = mca j ∧ M3 j = M2 j) (ht : ∀ q : Nat, (q : Int) < (mlc2 t).toInt → t27 (M3 t q).toInt) : mdC b en2 el2 mca2 mlc2 M3 (k.toInt + 1) cu2 := by
  obtain ⟨⟨a1, a2, a3, a4⟩, c1, c2⟩ := h
  have zn := i32_clamp (x := n) a1
  have zn2 := i32_clamp (x := n2) (by omega)
  refine ⟨n2, lc2, upd cfi (t + 1) n2, gop2, gpt2, gel2, glb2, gva2, pos2, ⟨by omega, h2, by omega, h4⟩, by rw [show (k.toInt + 1).toNat = t + 1 by omega, pk_us], fun f hf => ?_⟩
  by_cases e : f = t
  · subst e
    rw [pk_us, pk_un (by omega)]
    have cn : (cfi f).toInt = n.toInt := by rw [← c1, show k.toInt.toNat = f by omega]
    have en : cfi f = n := Int32.toInt_inj.mp cn
    rw [en]
    exact ⟨a1, by omega, by omega, hF, by rw [hS.2.2.2.1]; omega, hp, ht⟩
  · obtain ⟨q1, q2, q3, q4, q5, q6, q7⟩ := c2 f (by omega)
    rw [pk_un (by omega), pk_un (by omega)]
    have z1 := i32_clamp (x := cfi f) q1
    have z2 := i32_clamp (x := cfi (f + 1)) (by omega)
    have fm := q4.1
    obtain ⟨-, fm, -⟩ := fm
    refine ⟨q1, q2, by omega, ckF_keep q4 (by omega) h3 (Int.le_refl _) hS (fun j x y => by have := q6 j x y; omega), by rw [hS.2.2.1 _ (by omega), (hm f e).2.1]; exact q5, fun j x y => by rw [hS.2.2.1 j (by omega)]; have := q6 j x y; omega, by rw [(hm f e).1, (hm f e).2.2]; exact q7⟩
end MDC

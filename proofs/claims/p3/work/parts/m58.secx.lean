/-! the reference reads what it wrote: sections -/
section MDX
variable {b en el mca mlc en2 el2 mca2 mlc2 cfi gop gpt gel glb gop2 gpt2 gel2 glb2 : Nat → Int32} {gva gva2 : Nat → Int64} {pos pos2 : Nat → Nat} {M2 M3 : Nat → Nat → Int32} {cc cu cu2 : Int} {n lc n2 lc2 : Int32}
theorem mdc_nextx {k : Int32} {t : Nat} (hk : k.toInt = (t : Int)) (h : mdc b en el mca mlc M2 k.toInt cu n lc cfi gop gpt gel glb gva pos) (hF : ckF b en2 el2 n.toNatClampNeg n2.toNatClampNeg lc2.toInt gop2 gpt2 gel2 glb2 gva2 pos2) (hS : ckS n.toNatClampNeg lc.toInt (mca2 t).toInt.toNat gop gpt gel glb en el gop2 gpt2 gel2 glb2 en2 el2 gva gva2 pos pos2)
    (h1 : n.toInt < n2.toInt) (h2 : n2.toInt ≤ cu2) (h3 : lc.toInt ≤ lc2.toInt) (h4 : lc2.toInt ≤ cu2) (hs : cu ≤ (mca2 t).toInt) (hcu : cu ≤ cu2) (hp : ∀ j, n.toNatClampNeg ≤ j → j < n2.toNatClampNeg → (pos2 j : Int) < cu2) (hm : ∀ j, j ≠ t → mlc2 j = mlc j ∧ mca2 j = mca j ∧ M3 j = M2 j) (ht : ∀ q : Nat, (q : Int) < (mlc2 t).toInt → t27 (M3 t q).toInt) : mdc b en2 el2 mca2 mlc2 M3 (k.toInt + 1) cu2 n2 lc2 (upd cfi (t + 1) n2) gop2 gpt2 gel2 glb2 gva2 pos2 := by
  obtain ⟨⟨a1, a2, a3, a4⟩, c1, c2⟩ := h
  have zn := i32_clamp (x := n) a1
  have zn2 := i32_clamp (x := n2) (by omega)
  refine ⟨⟨by omega, h2, by omega, h4⟩, by rw [show (k.toInt + 1).toNat = t + 1 by omega, pk_us], fun f hf => ?_⟩
  by_cases e : f = t
  · subst e
    rw [pk_us, pk_un (by omega)]
    have cn : (cfi f).toInt = n.toInt := by rw [← c1, show k.toInt.toNat = f by omega]
    have en : cfi f = n := Int32.toInt_inj.mp cn
    rw [en]
    exact ⟨a1, by omega, by omega, hF, by rw [hS.2.2.2.1]; omega, hp, ht⟩
  · obtain ⟨q1, q2, q3, q4, q5, q6, q7⟩ := c2 f (by omega)
    rw [pk_un (by omega), pk_un (by omega)]
    have z1 := i32_clamp (x := cfi f) q1
    have z2 := i32_clamp (x := cfi (f + 1)) (by omega)
    have fm := q4.1
    obtain ⟨-, fm, -⟩ := fm
    refine ⟨q1, q2, by omega, ckF_keep q4 (by omega) h3 (Int.le_refl _) hS (fun j x y => by have := q6 j x y; omega), by rw [hS.2.2.1 _ (by omega), (hm f e).2.1]; exact q5, fun j x y => by rw [hS.2.2.1 j (by omega)]; have := q6 j x y; omega, by rw [(hm f e).1, (hm f e).2.2]; exact q7⟩
end MDX
def z64 (g : Int) : Int := if g = 64 then 0 else g
def fQ (Q : Nat → List (Nat × Nat) → List ci → Prop) (f k : Nat) (e : List Nat) : Prop :=
  ∃ (R : List (Nat × Nat)) (l : List ci), l.length = k ∧ rok R ∧ (rsum R : Int) ≤ 50 ∧ R.length ≤ 50 ∧ dl l [] = some [] ∧ iokl2 l ∧ Q f R l ∧
    e = leb 5 ((R.length :: rb R).length + (enl (l ++ [(11, 0)])).length) ++ ((R.length :: rb R) ++ enl (l ++ [(11, 0)]))
def cFq (Q : Nat → List (Nat × Nat) → List ci → Prop) : Nat → Nat → List Nat → Nat → Prop
  | _, 0, bs, I => bs = [] ∧ I = 0
  | f, m + 1, bs, I => ∃ (e b : List Nat) (k I1 : Nat), bs = e ++ b ∧ fQ Q f k e ∧ I = k + 1 + I1 ∧ cFq Q (f + 1) m b I1
def B1r (qTs : List Nat) (qtk : Nat → Int) (qft : Nat → Int32) (n : Int) (mpc mre : Nat → Int32) : Prop := ∀ t : Nat, (t : Int) < n → ∃ r, qTs[t]? = some r ∧ (mpc t).toInt = qtk r ∧ (mre t).toInt = z64 (qft r).toInt
def B10r (Q : Nat → List (Nat × Nat) → List ci → Prop) (qn : Nat) (cu : Int) (b en el mca mlc : Nat → Int32) (M2 : Nat → Nat → Int32) : Prop :=
  ∃ (n lc : Int32) (cfi gop gpt gel glb : Nat → Int32) (gva : Nat → Int64) (pos : Nat → Nat), mdc b en el mca mlc M2 (qn : Int) cu n lc cfi gop gpt gel glb gva pos ∧ ∀ f, f < qn → cxq Q cfi mlc gop gva f
/-- what the tables hold before section id -/
def rBx (Q : Nat → List (Nat × Nat) → List ci → Prop) (qTs : List Nat) (qtk : Nat → Int) (qft qto : Nat → Int32) (qn : Nat) (qG : List (Nat × Int)) (qX : List (List Nat × Nat × Nat)) (id : Nat) (tc fcn mems gcn ec cc : Int32) (least : Int64) (cu len : Int) (b en el mca mpc mre mlc mna mnl : Nat → Int32) (mto : Nat → Int64) (M2 : Nat → Nat → Int32) : Prop :=
  (1 < id → tc.toInt = (qTs.length : Int) ∧ B1r qTs qtk qft (qTs.length : Int) mpc mre) ∧ (3 < id → fcn.toInt = (qn : Int) ∧ ∀ f, f < qn → (mto f).toInt = (qto f).toInt) ∧ (5 < id → mems.toInt = 1 ∧ least.toInt = 1) ∧ (6 < id → gcn.toInt = (qG.length : Int)) ∧ (id ≤ 6 → gcn.toInt = 0) ∧ (7 < id → ec.toInt = (qX.length : Int) ∧ mdE ec.toInt len mna mnl) ∧ (10 < id → cc.toInt = (qn : Int) ∧ B10r Q qn cu b en el mca mlc M2)
theorem gbl_h2 {G : List (Nat × Int)} {k : Nat} (hk : k < G.length) : ∃ x, x ∈ G ∧ gbl (G.drop k) = gl1 x ++ gbl (G.drop (k + 1)) := by
  refine ⟨G[k], List.getElem_mem hk, ?_⟩
  rw [List.drop_eq_getElem_cons hk]
  rfl
theorem ty_z {g : Int} (h : ty g) : (g = 64 ∧ z64 g = 0) ∨ (g ≠ 64 ∧ (g = 127 ∨ g = 126) ∧ z64 g = g) := by
  unfold ty at h
  unfold z64
  by_cases q : g = 64
  · exact Or.inl ⟨q, if_pos q⟩
  · exact Or.inr ⟨q, by omega, if_neg q⟩

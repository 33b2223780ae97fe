/-! the reference: what readModule read of what was compiled may be run -/
def r126 (g : Int) : Int := if g = 64 then 0 else 126
theorem comp_rk {gv gg qtk : Nat → Int} {qTs : List Nat} {qft qto : Nat → Int32} {qn : Nat} {qG : List (Nat × Int)} {qX : List (List Nat × Nat × Nat)} {tc fcn mems gcn ec cc : Int32} {least : Int64} {cu len : Int} {b en el mca mpc mre mlc mna mnl : Nat → Int32} {mto : Nat → Int64} {M2 : Nat → Nat → Int32}
    (h : rBx (Qc gv qtk gg (qn : Int) (qG.length : Int)) qTs qtk qft qto qn qG qX 11 tc fcn mems gcn ec cc least cu len b en el mca mpc mre mlc mna mnl mto M2) (hb : brg b) (ht : tyI qto qtk qft qn qTs) (hn : qn ≤ 20) (hl : qTs.length ≤ 20) (hcu : cu ≤ 32000) (hty : ∀ f, f < qn → ty (qft f).toInt) (hgg : ∀ f, f < qn → gg f = (qft f).toInt) (hgv : ∀ f, f < qn → gv f = ga0 (r126 (qft f).toInt)) :
    ∃ (nl : Nat → Int) (an : mc_A) (pos : Nat → Nat) (gop gpt gel gla : Nat → Int32) (gva : Nat → Int64), rko b en el mca mpc mre mlc mto fcn.toInt gcn.toInt (fun _ _ => 126) (fun _ _ => 126) (fun f => r126 (qft f).toInt) nl gv qtk (fun _ => 126) an pos gop gpt gel gla gva ∧ mdE ec.toInt len mna mnl ∧ mems.toInt = 1 ∧ least.toInt = 1 ∧ fcn.toInt = (qn : Int) := by
  obtain ⟨h1, h3, h5, h6, -, h7, h10⟩ := h
  obtain ⟨t1, t2⟩ := h1 (by decide)
  obtain ⟨f1, f2⟩ := h3 (by decide)
  have g1 := h6 (by decide)
  obtain ⟨-, n, lc, cfi, gop, gpt, gel, gla, gva, pos, hC, hX⟩ := h10 (by decide)
  rw [f1, g1]
  have hx : ∀ f : Nat, (f : Int) < (qn : Int) → (0 ≤ (mto f).toInt ∧ (mto f).toInt < 20) ∧ qtk f = (mpc (mto f).toInt.toNat).toInt ∧ (r126 (qft f).toInt = 0 ↔ (mre (mto f).toInt.toNat).toInt = 0) ∧ (r126 (qft f).toInt = 0 ∨ r126 (qft f).toInt = 126) ∧ gv f = ga0 (r126 (qft f).toInt) ∧ qtk f + (mlc f).toInt = qtk f + (mlc f).toInt ∧ (r126 (qft f).toInt ≠ 0 → gg f ≠ 64) := by
    intro f hf
    have hf2 : f < qn := by omega
    obtain ⟨k0, r, k1, k2, k3⟩ := tyI_get qn ht f hf2
    have e := f2 f hf2
    have kl := (List.getElem?_eq_some_iff.mp k1).1
    obtain ⟨r2, m1, m2, m3⟩ := t2 (mto f).toInt.toNat (by omega)
    rw [show (mto f).toInt.toNat = (qto f).toInt.toNat by rw [e], k1] at m1
    have er := Option.some.inj m1
    subst er
    have hy := ty_z (hty f hf2)
    refine ⟨⟨by omega, by omega⟩, by rw [m2, k2], ?_, ?_, hgv f hf2, rfl, fun z => ?_⟩
    · rw [m3]
      have k4 : (qft r).toInt = (qft f).toInt := by rw [k3]
      rw [k4]
      show r126 (qft f).toInt = 0 ↔ z64 (qft f).toInt = 0
      unfold r126
      rcases hy with ⟨a1, a2⟩ | ⟨a1, a2, a3⟩
      · rw [if_pos a1, a2]
      · rw [if_neg a1, a3]
        omega
    · show r126 (qft f).toInt = 0 ∨ r126 (qft f).toInt = 126
      unfold r126
      split
      · exact Or.inl rfl
      · exact Or.inr rfl
    · rw [hgg f hf2]
      intro w
      apply z
      show r126 (qft f).toInt = 0
      unfold r126
      rw [if_pos w]
  obtain ⟨an, hr⟩ := rko_comp (rt := fun f => r126 (qft f).toInt) (nl := fun f => qtk f + (mlc f).toInt) (gg := gg) (mpc := mpc) (mre := mre) (mto := mto) hb hC hx (fun f hf => by omega) hcu (fun f hf => hX f (by omega))
  exact ⟨_, an, pos, gop, gpt, gel, gla, gva, hr, (h7 (by decide)).2, (h5 (by decide)).1, (h5 (by decide)).2, rfl⟩

/-! Validator: what the calls say, as one step -/
section VP
variable {nl gv tk : Nat → Int} {fc gc : Int} {f : Nat} {v : Int} {D h D2 h2 s s2 p0 p1 : Int32} {bo bg bh bd bo2 bg2 bh2 bd2 : Nat → Int32}
theorem ef10 {a b c : Int} (x : a + 1 ≤ b ∧ c = b - 1 + 0) : a + 1 ≤ b ∧ c = b - 1 := by omega
theorem ef31 {a b c : Int} (x : a + 3 ≤ b ∧ c = b - 3 + 1) : a + 3 ≤ b ∧ c = b - 2 := by omega
theorem ef01 {a b c : Int} (x : a + 0 ≤ b ∧ c = b - 0 + 1) : c = b + 1 := by omega
theorem ef20 {a b c : Int} (x : a + 2 ≤ b ∧ c = b - 2 + 0) : a + 2 ≤ b ∧ c = b - 2 := by omega
theorem ef11 {a b c : Int} (x : a + 1 ≤ b ∧ c = b - 1 + 1) : a + 1 ≤ b ∧ c = b := by omega
theorem ef21 {a b c : Int} (x : a + 2 ≤ b ∧ c = b - 2 + 1) : a + 2 ≤ b ∧ c = b - 1 := by omega
theorem vo_num (hD : 1 ≤ D.toInt) (hm : ∀ k : Nat, (k : Int) + 1 < D.toInt → (bh k).toInt ≤ (bh (k + 1)).toInt) (hT : (bh (D.toInt - 1).toNat).toInt ≤ h.toInt) (hop : p0.toInt = 65 ∨ p0.toInt = 66 ∨ 69 ≤ p0.toInt) (hop2 : p0.toInt = 65 ∨ p0.toInt = 66 ∨ (69 ≤ p0.toInt ∧ p0.toInt ≤ 90) ∨ (103 ≤ p0.toInt ∧ p0.toInt ≤ 138) ∨ 138 < p0.toInt) (x : ((bh (D.toInt - 1).toNat).toInt ≤ h2.toInt ∧ h2.toInt ≤ h.toInt + 1) ∧ (s2.toInt = 1 → s.toInt = 1 ∧ ((bd (D.toInt - 1).toNat).toInt = 0 → ((p0.toInt = 65 ∨ p0.toInt = 66) → (bh (D.toInt - 1).toNat).toInt + 0 ≤ h.toInt ∧ h2.toInt = h.toInt - 0 + 1) ∧ (¬ (p0.toInt = 65 ∨ p0.toInt = 66) → (p0.toInt = 69 ∨ p0.toInt = 80 ∨ (103 ≤ p0.toInt ∧ p0.toInt < 106) ∨ (121 ≤ p0.toInt ∧ p0.toInt < 124) ∨ 138 < p0.toInt) → (bh (D.toInt - 1).toNat).toInt + 1 ≤ h.toInt ∧ h2.toInt = h.toInt - 1 + 1) ∧ (¬ (p0.toInt = 65 ∨ p0.toInt = 66) → ¬ (p0.toInt = 69 ∨ p0.toInt = 80 ∨ (103 ≤ p0.toInt ∧ p0.toInt < 106) ∨ (121 ≤ p0.toInt ∧ p0.toInt < 124) ∨ 138 < p0.toInt) → (bh (D.toInt - 1).toNat).toInt + 2 ≤ h.toInt ∧ h2.toInt = h.toInt - 2 + 1)))) (z : s2.toInt = 1) : vo nl gv tk fc gc f p0.toInt v D h D h2 bo bg bh bd bo bg bh bd := by
  have n0 : p0.toInt ≠ 0 ∧ p0.toInt ≠ 12 ∧ p0.toInt ≠ 14 ∧ p0.toInt ≠ 15 := by clear x; omega
  have n1 : p0.toInt ≠ 2 ∧ p0.toInt ≠ 3 ∧ p0.toInt ≠ 4 ∧ p0.toInt ≠ 5 ∧ p0.toInt ≠ 11 := by clear x; omega
  have n2 : p0.toInt ≠ 1 ∧ p0.toInt ≠ 16 := by clear x; omega
  have n3 : ¬ (32 ≤ p0.toInt ∧ p0.toInt ≤ 34) ∧ ¬ (p0.toInt = 35 ∨ p0.toInt = 36) ∧ ¬ (p0.toInt = 13 ∨ p0.toInt = 26 ∨ p0.toInt = 33 ∨ p0.toInt = 36) ∧ ¬ p0.toInt = 27 ∧ ¬ (p0.toInt = 54 ∨ p0.toInt = 55 ∨ p0.toInt = 58) := by clear x; omega
  have m1 : (p0.toInt = 32 ∨ p0.toInt = 35 ∨ p0.toInt = 63 ∨ p0.toInt = 65 ∨ p0.toInt = 66) → (p0.toInt = 65 ∨ p0.toInt = 66) := by clear x; omega
  have m2 : (p0.toInt = 34 ∨ p0.toInt = 64 ∨ p0.toInt = 40 ∨ p0.toInt = 41 ∨ p0.toInt = 44 ∨ p0.toInt = 45 ∨ p0.toInt = 69 ∨ p0.toInt = 80 ∨ (103 ≤ p0.toInt ∧ p0.toInt < 106) ∨ (121 ≤ p0.toInt ∧ p0.toInt < 124) ∨ 138 < p0.toInt) → ¬ (p0.toInt = 65 ∨ p0.toInt = 66) ∧ (p0.toInt = 69 ∨ p0.toInt = 80 ∨ (103 ≤ p0.toInt ∧ p0.toInt < 106) ∨ (121 ≤ p0.toInt ∧ p0.toInt < 124) ∨ 138 < p0.toInt) := by clear x; omega
  have m3 : ((69 < p0.toInt ∧ p0.toInt < 80) ∨ (80 < p0.toInt ∧ p0.toInt ≤ 90) ∨ (106 ≤ p0.toInt ∧ p0.toInt < 121) ∨ (124 ≤ p0.toInt ∧ p0.toInt ≤ 138)) → ¬ (p0.toInt = 65 ∨ p0.toInt = 66) ∧ ¬ (p0.toInt = 69 ∨ p0.toInt = 80 ∨ (103 ≤ p0.toInt ∧ p0.toInt < 106) ∨ (121 ≤ p0.toInt ∧ p0.toInt < 124) ∨ 138 < p0.toInt) := by clear x; omega
  obtain ⟨⟨x1, x2⟩, x3⟩ := x
  obtain ⟨-, x4⟩ := x3 z
  refine vo_plain hD hm hT x1 x2 n0 n1 (fun y => absurd y n2.1) (fun y => absurd y n2.2) (fun y => absurd y n3.1) (fun y => absurd y n3.2.1) (fun y => ?_)
  obtain ⟨w1, w2, w3⟩ := x4 y
  exact ⟨fun q => absurd q n3.2.2.1, fun q => absurd q n3.2.2.2.1, fun q => ef01 (w1 (m1 q)), fun q => absurd q n3.2.2.2.2, fun q => ef11 (w2 (m2 q).1 (m2 q).2), fun q => ef21 (w3 (m3 q).1 (m3 q).2)⟩
theorem vo_mem (hD : 1 ≤ D.toInt) (hm : ∀ k : Nat, (k : Int) + 1 < D.toInt → (bh k).toInt ≤ (bh (k + 1)).toInt) (hT : (bh (D.toInt - 1).toNat).toInt ≤ h.toInt) (hop : p0.toInt = 40 ∨ p0.toInt = 41 ∨ p0.toInt = 44 ∨ p0.toInt = 45 ∨ p0.toInt = 54 ∨ p0.toInt = 55 ∨ p0.toInt = 58 ∨ p0.toInt = 63 ∨ p0.toInt = 64) (x : ((bh (D.toInt - 1).toNat).toInt ≤ h2.toInt ∧ h2.toInt ≤ h.toInt + 1) ∧ (s2.toInt = 1 → s.toInt = 1 ∧ ((bd (D.toInt - 1).toNat).toInt = 0 → (p0.toInt = 63 → (bh (D.toInt - 1).toNat).toInt + 0 ≤ h.toInt ∧ h2.toInt = h.toInt - 0 + 1) ∧ (p0.toInt ≠ 63 → (p0.toInt = 54 ∨ p0.toInt = 55 ∨ p0.toInt = 58) → (bh (D.toInt - 1).toNat).toInt + 2 ≤ h.toInt ∧ h2.toInt = h.toInt - 2 + 0) ∧ (p0.toInt ≠ 63 → ¬ (p0.toInt = 54 ∨ p0.toInt = 55 ∨ p0.toInt = 58) → (bh (D.toInt - 1).toNat).toInt + 1 ≤ h.toInt ∧ h2.toInt = h.toInt - 1 + 1)))) (z : s2.toInt = 1) : vo nl gv tk fc gc f p0.toInt v D h D h2 bo bg bh bd bo bg bh bd := by
  have n0 : p0.toInt ≠ 0 ∧ p0.toInt ≠ 12 ∧ p0.toInt ≠ 14 ∧ p0.toInt ≠ 15 := by clear x; omega
  have n1 : p0.toInt ≠ 2 ∧ p0.toInt ≠ 3 ∧ p0.toInt ≠ 4 ∧ p0.toInt ≠ 5 ∧ p0.toInt ≠ 11 := by clear x; omega
  have n2 : p0.toInt ≠ 1 ∧ p0.toInt ≠ 16 := by clear x; omega
  have n3 : ¬ (32 ≤ p0.toInt ∧ p0.toInt ≤ 34) ∧ ¬ (p0.toInt = 35 ∨ p0.toInt = 36) ∧ ¬ (p0.toInt = 13 ∨ p0.toInt = 26 ∨ p0.toInt = 33 ∨ p0.toInt = 36) ∧ ¬ p0.toInt = 27 ∧ ¬ ((69 < p0.toInt ∧ p0.toInt < 80) ∨ (80 < p0.toInt ∧ p0.toInt ≤ 90) ∨ (106 ≤ p0.toInt ∧ p0.toInt < 121) ∨ (124 ≤ p0.toInt ∧ p0.toInt ≤ 138)) := by clear x; omega
  have m1 : (p0.toInt = 32 ∨ p0.toInt = 35 ∨ p0.toInt = 63 ∨ p0.toInt = 65 ∨ p0.toInt = 66) → p0.toInt = 63 := by clear x; omega
  have m2 : (p0.toInt = 54 ∨ p0.toInt = 55 ∨ p0.toInt = 58) → p0.toInt ≠ 63 := by clear x; omega
  have m3 : (p0.toInt = 34 ∨ p0.toInt = 64 ∨ p0.toInt = 40 ∨ p0.toInt = 41 ∨ p0.toInt = 44 ∨ p0.toInt = 45 ∨ p0.toInt = 69 ∨ p0.toInt = 80 ∨ (103 ≤ p0.toInt ∧ p0.toInt < 106) ∨ (121 ≤ p0.toInt ∧ p0.toInt < 124) ∨ 138 < p0.toInt) → p0.toInt ≠ 63 ∧ ¬ (p0.toInt = 54 ∨ p0.toInt = 55 ∨ p0.toInt = 58) := by clear x; omega
  obtain ⟨⟨x1, x2⟩, x3⟩ := x
  obtain ⟨-, x4⟩ := x3 z
  refine vo_plain hD hm hT x1 x2 n0 n1 (fun y => absurd y n2.1) (fun y => absurd y n2.2) (fun y => absurd y n3.1) (fun y => absurd y n3.2.1) (fun y => ?_)
  obtain ⟨w1, w2, w3⟩ := x4 y
  exact ⟨fun q => absurd q n3.2.2.1, fun q => absurd q n3.2.2.2.1, fun q => ef01 (w1 (m1 q)), fun q => ef20 (w2 (m2 q) q), fun q => ef11 (w3 (m3 q).1 (m3 q).2), fun q => absurd q n3.2.2.2.2⟩
theorem vo_var {gwaf gwat gclk : Nat → Int32} {h0_function aw_globalCount : Int32} (hD : 1 ≤ D.toInt) (hm : ∀ k : Nat, (k : Int) + 1 < D.toInt → (bh k).toInt ≤ (bh (k + 1)).toInt) (hT : (bh (D.toInt - 1).toNat).toInt ≤ h.toInt) (hop : p0.toInt = 26 ∨ p0.toInt = 27 ∨ (32 ≤ p0.toInt ∧ p0.toInt ≤ 36)) (hv : 32 ≤ p0.toInt → 0 ≤ p1.toInt ∧ p1.toInt = v) (hn : (gwat (gwaf h0_function.toNatClampNeg).toNatClampNeg).toInt + (gclk h0_function.toNatClampNeg).toInt = nl f) (hg : aw_globalCount.toInt = gc) (x : ((bh (D.toInt - 1).toNat).toInt ≤ h2.toInt ∧ h2.toInt ≤ h.toInt + 1) ∧ (s2.toInt = 1 → s.toInt = 1 ∧ (32 ≤ p0.toInt ∧ p0.toInt ≤ 34 → p1.toInt < (gwat (gwaf h0_function.toNatClampNeg).toNatClampNeg).toInt + (gclk h0_function.toNatClampNeg).toInt) ∧ (35 ≤ p0.toInt → p1.toInt < aw_globalCount.toInt) ∧ ((bd (D.toInt - 1).toNat).toInt = 0 → (p0.toInt = 26 → (bh (D.toInt - 1).toNat).toInt + 1 ≤ h.toInt ∧ h2.toInt = h.toInt - 1 + 0) ∧ (p0.toInt = 27 → (bh (D.toInt - 1).toNat).toInt + 3 ≤ h.toInt ∧ h2.toInt = h.toInt - 3 + 1) ∧ (p0.toInt = 32 ∨ p0.toInt = 35 → (bh (D.toInt - 1).toNat).toInt + 0 ≤ h.toInt ∧ h2.toInt = h.toInt - 0 + 1) ∧ (p0.toInt = 33 ∨ p0.toInt = 36 → (bh (D.toInt - 1).toNat).toInt + 1 ≤ h.toInt ∧ h2.toInt = h.toInt - 1 + 0) ∧ (p0.toInt = 34 → (bh (D.toInt - 1).toNat).toInt + 1 ≤ h.toInt ∧ h2.toInt = h.toInt - 1 + 1)))) (z : s2.toInt = 1) : vo nl gv tk fc gc f p0.toInt v D h D h2 bo bg bh bd bo bg bh bd := by
  have n0 : p0.toInt ≠ 0 ∧ p0.toInt ≠ 12 ∧ p0.toInt ≠ 14 ∧ p0.toInt ≠ 15 := by clear x hv; omega
  have n1 : p0.toInt ≠ 2 ∧ p0.toInt ≠ 3 ∧ p0.toInt ≠ 4 ∧ p0.toInt ≠ 5 ∧ p0.toInt ≠ 11 := by clear x hv; omega
  have n2 : p0.toInt ≠ 1 ∧ p0.toInt ≠ 16 := by clear x hv; omega
  have n3 : ¬ (p0.toInt = 54 ∨ p0.toInt = 55 ∨ p0.toInt = 58) ∧ ¬ ((69 < p0.toInt ∧ p0.toInt < 80) ∨ (80 < p0.toInt ∧ p0.toInt ≤ 90) ∨ (106 ≤ p0.toInt ∧ p0.toInt < 121) ∨ (124 ≤ p0.toInt ∧ p0.toInt ≤ 138)) ∧ ¬ p0.toInt = 13 := by clear x hv; omega
  have m1 : (p0.toInt = 32 ∨ p0.toInt = 35 ∨ p0.toInt = 63 ∨ p0.toInt = 65 ∨ p0.toInt = 66) → p0.toInt = 32 ∨ p0.toInt = 35 := by clear x hv; omega
  have m3 : (p0.toInt = 34 ∨ p0.toInt = 64 ∨ p0.toInt = 40 ∨ p0.toInt = 41 ∨ p0.toInt = 44 ∨ p0.toInt = 45 ∨ p0.toInt = 69 ∨ p0.toInt = 80 ∨ (103 ≤ p0.toInt ∧ p0.toInt < 106) ∨ (121 ≤ p0.toInt ∧ p0.toInt < 124) ∨ 138 < p0.toInt) → p0.toInt = 34 := by clear x hv; omega
  have m4 : (p0.toInt = 35 ∨ p0.toInt = 36) → 32 ≤ p0.toInt ∧ 35 ≤ p0.toInt := by clear x hv; omega
  obtain ⟨⟨x1, x2⟩, x3⟩ := x
  obtain ⟨-, x5, x6, x4⟩ := x3 z
  refine vo_plain hD hm hT x1 x2 n0 n1 (fun y => absurd y n2.1) (fun y => absurd y n2.2) (fun y => ?_) (fun y => ?_) (fun y => ?_)
  · obtain ⟨h1, h2⟩ := hv y.1
    have h3 := x5 y
    rw [← h2, ← hn]
    exact ⟨h1, h3⟩
  · obtain ⟨h1, h2⟩ := hv (m4 y).1
    have h3 := x6 (m4 y).2
    rw [← h2, ← hg]
    exact ⟨h1, h3⟩
  · obtain ⟨w1, w2, w3, w4, w5⟩ := x4 y
    refine ⟨fun q => ?_, fun q => ef31 (w2 q), fun q => ef01 (w3 (m1 q)), fun q => absurd q n3.1, fun q => ef11 (w5 (m3 q)), fun q => absurd q n3.2.1⟩
    rcases q with q | q | q | q
    · exact absurd q n3.2.2
    · exact ef10 (w1 q)
    · exact ef10 (w4 (Or.inl q))
    · exact ef10 (w4 (Or.inr q))
theorem vo_jump {gwaf gwat gwag gcop gcpt : Nat → Int32} {gcva : Nat → Int64} (hD : 1 ≤ D.toInt) (hm : ∀ k : Nat, (k : Int) + 1 < D.toInt → (bh k).toInt ≤ (bh (k + 1)).toInt) (hT : (bh (D.toInt - 1).toNat).toInt ≤ h.toInt) (hop : 12 ≤ p0.toInt ∧ p0.toInt ≤ 16) (hv0 : p0.toInt = 16 → 0 ≤ v) (hv : v = (gcva p1.toNatClampNeg).toInt) (ht : p0.toInt = 16 → v < fc → tk v.toNat = (gwat (gwaf (gcva p1.toNatClampNeg).toInt.toNat).toNatClampNeg).toInt ∧ gv v.toNat = (if (gwag (gwaf (gcva p1.toNatClampNeg).toInt.toNat).toNatClampNeg).toInt = 64 then 0 else 1)) (hg0 : bh2 = bh) (x : (p0.toInt = 12 ∨ p0.toInt = 14 ∨ p0.toInt = 15 → (h2.toInt = (bh (D.toInt - 1).toNat).toInt ∧ bd2 = upd bd (D.toInt - 1).toNat (vp_nar .boolean 1)) ∧ (s2.toInt = 1 → s.toInt = 1 ∧ (p0.toInt = 14 → (bd (D.toInt - 1).toNat).toInt = 0 → (bh (D.toInt - 1).toNat).toInt + 1 ≤ h.toInt))) ∧ (p0.toInt = 13 → bd2 = bd ∧ ((bh (D.toInt - 1).toNat).toInt ≤ h2.toInt ∧ h2.toInt ≤ h.toInt + 1) ∧ (s2.toInt = 1 → s.toInt = 1 ∧ ((bd (D.toInt - 1).toNat).toInt = 0 → (bh (D.toInt - 1).toNat).toInt + 1 ≤ h.toInt ∧ h2.toInt = h.toInt - 1))) ∧ (p0.toInt = 16 → bd2 = bd ∧ ((bh (D.toInt - 1).toNat).toInt ≤ h2.toInt ∧ h2.toInt ≤ h.toInt + 1) ∧ (s2.toInt = 1 → s.toInt = 1 ∧ (gcva p1.toNatClampNeg).toInt < fc ∧ ((bd (D.toInt - 1).toNat).toInt = 0 → (bh (D.toInt - 1).toNat).toInt + (gwat (gwaf (gcva p1.toNatClampNeg).toInt.toNat).toNatClampNeg).toInt ≤ h.toInt ∧ h2.toInt = h.toInt - (gwat (gwaf (gcva p1.toNatClampNeg).toInt.toNat).toNatClampNeg).toInt + (if (gwag (gwaf (gcva p1.toNatClampNeg).toInt.toNat).toNatClampNeg).toInt = 64 then 0 else 1))))) (z : s2.toInt = 1) : vo nl gv tk fc gc f p0.toInt v D h D h2 bo bg bh bd bo bg bh bd2 := by
  obtain ⟨x1, x2, x3⟩ := x
  by_cases q : p0.toInt = 12 ∨ p0.toInt = 14 ∨ p0.toInt = 15
  · obtain ⟨⟨y1, y2⟩, y3⟩ := x1 q
    exact vo_die hD hm hT y1 y2 (by omega) (y3 z).2
  by_cases q13 : p0.toInt = 13
  · obtain ⟨rfl, ⟨y1, y2⟩, y3⟩ := x2 q13
    obtain ⟨-, y4⟩ := y3 z
    exact vo_plain hD hm hT y1 y2 (by omega) (by omega) (fun y => by omega) (fun y => by omega) (fun y => by omega) (fun y => by omega) (fun y => ⟨fun _ => y4 y, fun w => by omega, fun w => by omega, fun w => by omega, fun w => by omega, fun w => by omega⟩)
  · have q16 : p0.toInt = 16 := by omega
    obtain ⟨rfl, ⟨y1, y2⟩, y3⟩ := x3 q16
    obtain ⟨-, y5, y4⟩ := y3 z
    rw [← hv] at y5 y4
    obtain ⟨t1, t2⟩ := ht q16 y5
    rw [← hv] at t1 t2
    rw [← t1, ← t2] at y4
    exact vo_plain hD hm hT y1 y2 (by omega) (by omega) (fun y => by omega) (fun _ => ⟨hv0 q16, y5, y4⟩) (fun y => by omega) (fun y => by omega) (fun y => ⟨fun w => by omega, fun w => by omega, fun w => by omega, fun w => by omega, fun w => by omega, fun w => by omega⟩)
theorem vo_blocks (hD : 1 ≤ D.toInt) (hm : ∀ k : Nat, (k : Int) + 1 < D.toInt → (bh k).toInt ≤ (bh (k + 1)).toInt) (hT : (bh (D.toInt - 1).toNat).toInt ≤ h.toInt) (hop : (0 ≤ p0.toInt ∧ p0.toInt ≤ 5) ∨ p0.toInt = 11) (hv : p0.toInt = 2 ∨ p0.toInt = 3 ∨ p0.toInt = 4 → p1.toInt = v) (x : (p0.toInt = 0 → (h2.toInt = (bh (D.toInt - 1).toNat).toInt ∧ bd2 = upd bd (D.toInt - 1).toNat (vp_nar .boolean 1)) ∧ D2 = D ∧ bo2 = bo ∧ bg2 = bg ∧ bh2 = bh ∧ (s2.toInt = 1 → s.toInt = 1)) ∧ (p0.toInt = 1 → h2 = h ∧ bd2 = bd ∧ D2 = D ∧ bo2 = bo ∧ bg2 = bg ∧ bh2 = bh ∧ (s2.toInt = 1 → s.toInt = 1)) ∧ (p0.toInt = 2 ∨ p0.toInt = 3 → (D2.toInt = D.toInt + 1 ∧ bo2 = upd bo D.toNatClampNeg p0 ∧ bg2 = upd bg D.toNatClampNeg p1 ∧ bh2 = upd bh D.toNatClampNeg h2 ∧ bd2 = upd bd D.toNatClampNeg (vp_nar .boolean 0)) ∧ h2 = h ∧ (s2.toInt = 1 → s.toInt = 1)) ∧ (p0.toInt = 4 → (D2.toInt = D.toInt + 1 ∧ bo2 = upd bo D.toNatClampNeg p0 ∧ bg2 = upd bg D.toNatClampNeg p1 ∧ bh2 = upd bh D.toNatClampNeg h2 ∧ bd2 = upd bd D.toNatClampNeg (vp_nar .boolean 0)) ∧ ((bh (D.toInt - 1).toNat).toInt ≤ h2.toInt ∧ h2.toInt ≤ h.toInt) ∧ (s2.toInt = 1 → s.toInt = 1 ∧ ((bd (D.toInt - 1).toNat).toInt = 0 → (bh (D.toInt - 1).toNat).toInt + 1 ≤ h.toInt ∧ h2.toInt = h.toInt - 1))) ∧ (p0.toInt = 5 → D2.toInt = D.toInt ∧ (bo2 = upd bo (D.toInt - 1).toNat p0 ∧ (∃ v : Int32, v = bg (D.toInt - 1).toNat ∧ bg2 = upd bg (D.toInt - 1).toNat v) ∧ bh2 = upd bh (D.toInt - 1).toNat h2 ∧ bd2 = upd bd (D.toInt - 1).toNat (vp_nar .boolean 0)) ∧ (s2.toInt = 1 → s.toInt = 1 ∧ h2.toInt = (bh (D.toInt - 1).toNat).toInt ∧ ((bd (D.toInt - 1).toNat).toInt = 0 → ((bg (D.toInt - 1).toNat).toInt = 64 → h.toInt = (bh (D.toInt - 1).toNat).toInt) ∧ ((bg (D.toInt - 1).toNat).toInt ≠ 64 → h.toInt = (bh (D.toInt - 1).toNat).toInt + 1)))) ∧ (p0.toInt = 11 → bo2 = bo ∧ bg2 = bg ∧ bh2 = bh ∧ bd2 = bd ∧ D2.toInt = D.toInt - 1 ∧ (s2.toInt = 1 → s.toInt = 1 ∧ ((bd (D.toInt - 1).toNat).toInt = 0 → ((bg (D.toInt - 1).toNat).toInt = 64 → h.toInt = (bh (D.toInt - 1).toNat).toInt) ∧ ((bg (D.toInt - 1).toNat).toInt ≠ 64 → h.toInt = (bh (D.toInt - 1).toNat).toInt + 1)) ∧ ((bo (D.toInt - 1).toNat).toInt = 4 → (bg (D.toInt - 1).toNat).toInt = 64) ∧ (2 ≤ D.toInt → ((bg (D.toInt - 1).toNat).toInt = 64 → h2.toInt = (bh (D.toInt - 1).toNat).toInt) ∧ ((bg (D.toInt - 1).toNat).toInt ≠ 64 → h2.toInt = (bh (D.toInt - 1).toNat).toInt + 1))))) (z : s2.toInt = 1) : vo nl gv tk fc gc f p0.toInt v D h D2 h2 bo bg bh bd bo2 bg2 bh2 bd2 := by
  obtain ⟨x0, x1, x2, x4, x5, x11⟩ := x
  by_cases q0 : p0.toInt = 0
  · obtain ⟨⟨y1, y2⟩, y3, y4, y5, y6, -⟩ := x0 q0
    subst y3; subst y4; subst y5; subst y6
    exact vo_die hD hm hT y1 y2 (by omega) (fun y => by omega)
  by_cases q1 : p0.toInt = 1
  · obtain ⟨y1, y2, y3, y4, y5, y6, -⟩ := x1 q1
    subst y1; subst y2; subst y3; subst y4; subst y5; subst y6
    exact vo_plain hD hm hT hT (by omega) (by omega) (by omega) (fun _ => rfl) (fun y => by omega) (fun y => by omega) (fun y => by omega) (fun y => ⟨fun w => by omega, fun w => by omega, fun w => by omega, fun w => by omega, fun w => by omega, fun w => by omega⟩)
  by_cases q2 : p0.toInt = 2 ∨ p0.toInt = 3
  · obtain ⟨⟨y1, y2, y3, y4, y5⟩, y6, -⟩ := x2 q2
    exact vo_open hD hm hT rfl (hv (by omega)) y1 y2 y3 y4 y5 (by omega) (by rw [y6]; exact hT) (by rw [y6]; exact Int.le_refl _) (fun _ => by rw [y6]) (fun y => by omega)
  by_cases q4 : p0.toInt = 4
  · obtain ⟨⟨y1, y2, y3, y4, y5⟩, ⟨y6, y7⟩, y8⟩ := x4 q4
    exact vo_open hD hm hT rfl (hv (by omega)) y1 y2 y3 y4 y5 (by omega) y6 y7 (fun y => by omega) (fun _ => (y8 z).2)
  by_cases q5 : p0.toInt = 5
  · obtain ⟨y1, ⟨y2, ⟨w, y3, y4⟩, y5, y6⟩, y7⟩ := x5 q5
    obtain ⟨-, y8, y9⟩ := y7 z
    exact vo_else hD hm hT q5 y3 y1 y2 y4 y5 y6 q5 y8 y9
  · have q11 : p0.toInt = 11 := by omega
    obtain ⟨y1, y2, y3, y4, y5, y6⟩ := x11 q11
    obtain ⟨-, y7, y8, y9⟩ := y6 z
    subst y1; subst y2; subst y3; subst y4
    exact vo_close hD hm hT y5 q11 y8 y7 y9
end VP
section VF
variable {nl gv tk : Nat → Int} {fc gc lc : Int} {f a m i : Nat} {gop gpt gel : Nat → Int32} {gva : Nat → Int64} {sb : Nat → List Nat} {D h D2 h2 : Int32} {bo bg bh bd bo2 bg2 bh2 bd2 : Nat → Int32}
def vF (nl gv tk : Nat → Int) (fc gc : Int) (f : Nat) (gop : Nat → Int32) (gva : Nat → Int64) (a m i : Nat) (D h : Int32) (bo bg bh bd : Nat → Int32) (sb : Nat → List Nat) : Prop :=
  ∃ B hh, vI nl gv tk fc gc f gop gva a m i B hh ∧ (i ≤ m → B i = vs_stk bo bg bh bd D.toNatClampNeg ∧ hh i = h.toInt ∧ D.toInt = (sb i).length + 1 ∧ (∀ k : Nat, (k : Int) + 1 < D.toInt → (bh k).toInt ≤ (bh (k + 1)).toInt) ∧ (bh (D.toInt - 1).toNat).toInt ≤ h.toInt ∧ h.toInt ≤ (i : Int) - a)
theorem vf_val (s2 : rs_I a m gop gpt gel gva lc sb) (s4 : (gop m).toInt = 11) (h1 : a ≤ i) (h2 : i ≤ m) : rs_val gop gpt gva lc i := by
  by_cases q : i < m
  · exact (s2.2.2.2 i h1 q).1
  · have e : i = m := by omega
    subst e
    unfold rs_val
    exact ⟨fun z => by omega, fun z => by omega, fun z => by omega, by omega⟩
theorem vf_open (s2 : rs_I a m gop gpt gel gva lc sb) (s4 : (gop m).toInt = 11) (h1 : a ≤ i) (h2 : i ≤ m) (ho : (gop i).toInt = 2 ∨ (gop i).toInt = 3 ∨ (gop i).toInt = 4) : (sb i).length < 100 := by
  by_cases q : i < m
  · have e := (s2.2.2.2 i h1 q).2.1 ho
    have l := (s2.2.2.1 (i + 1) (by omega) (by omega)).2.2
    rw [e, List.length_cons] at l
    omega
  · have e : i = m := by omega
    subst e
    omega
theorem vF_next (F : vF nl gv tk fc gc f gop gva a m i D h bo bg bh bd sb) (s2 : rs_I a m gop gpt gel gva lc sb) (hi : a ≤ i) (him : i ≤ m) (o : vo nl gv tk fc gc f (gop i).toInt (gva i).toInt D h D2 h2 bo bg bh bd bo2 bg2 bh2 bd2) (hp : ∀ j : Nat, 0 ≤ (bh2 j).toInt ∧ (bh2 j).toInt ≤ 5000) (h0 : 0 ≤ h2.toInt) : vF nl gv tk fc gc f gop gva a m (i + 1) D2 h2 bo2 bg2 bh2 bd2 sb := by
  obtain ⟨B, hh, k1, k2⟩ := F
  obtain ⟨e1, e2, e3, e4, e5, e6⟩ := k2 him
  obtain ⟨o1, o2, o3, o4⟩ := o
  have hL : i < m → (gop i).toInt = 11 → 2 ≤ D.toInt := fun q z => by
    obtain ⟨b, r, w, -⟩ := (s2.2.2.2 i hi q).2.2.2.2.1 z
    rw [w, List.length_cons] at e3
    omega
  obtain ⟨B2, hh2, j1, j2, j3⟩ := vI_next k1 hi him e1 e2 (fun q => (o1 (hL q)).1) (fun _ => ⟨h0, vs_stk_pos hp _⟩)
  refine ⟨B2, hh2, j1, fun q => ?_⟩
  have q : i < m := q
  obtain ⟨-, v2, -, -, v5, v6, -⟩ := s2.2.2.2 i hi q
  obtain ⟨-, u2, u3, u4⟩ := o1 (hL q)
  refine ⟨j2, j3, ?_, u2, u3, by omega⟩
  by_cases p2 : (gop i).toInt = 2 ∨ (gop i).toInt = 3 ∨ (gop i).toInt = 4
  · rw [v2 p2, List.length_cons, o2 p2, e3]
    omega
  by_cases p11 : (gop i).toInt = 11
  · obtain ⟨b, r, w1, w2, -⟩ := v5 p11
    rw [w1, List.length_cons] at e3
    rw [w2, o3 p11, e3]
    omega
  · rw [v6 (by omega) (by omega) (by omega) p11, o4 (by omega) (by omega) (by omega) p11, e3]
theorem vF_start (s2 : rs_I a m gop gpt gel gva lc sb) {x y : Int32} (eD : D.toInt = 1) (eh : h.toInt = 0) (e3 : bh = upd bo2 0 y) (ey : y.toInt = 0) (e4 : bd = upd bd2 0 (vp_nar .boolean 0)) : vF nl gv tk fc gc f gop gva a m a D h bo bg bh bd sb := by
  have eDn : D.toNatClampNeg = 1 := by rw [i32_natI eD]; rfl
  have k0 : (vp_nar .boolean 0).toInt = 0 := by decide
  have eS : vs_stk bo bg bh bd 1 = [((bo 0).toInt, (bg 0).toInt, 0, 0)] := by
    show [((bo 0).toInt, (bg 0).toInt, (bh 0).toInt, (bd 0).toInt)] = _
    rw [e3, e4, pk_us, pk_us, ey, k0]
  refine ⟨fun _ => vs_stk bo bg bh bd 1, fun _ => 0, ⟨fun j j1 j2 _ => by omega, fun j _ _ _ => ⟨Int.le_refl _, fun w hw => ?_⟩, by rw [eS]; rfl, rfl, by rw [eS]; rfl⟩, fun _ => ⟨by rw [eDn], eh.symm, by rw [s2.2.1]; exact eD, fun k hk => by omega, ?_, by omega⟩⟩
  · rw [eS] at hw
    rcases List.mem_cons.mp hw with e | e
    · rw [e]
      exact Int.le_refl _
    · cases e
  · rw [show (D.toInt - 1).toNat = 0 by omega, e3, pk_us]
    omega
/-- a function that is valid -/
def vfin (nl gv tk : Nat → Int) (fc gc : Int) (f : Nat) (gop gpt gel : Nat → Int32) (gva : Nat → Int64) (lc : Int) (a m : Nat) : Prop :=
  ∃ sb B hh, rs_I a m gop gpt gel gva lc sb ∧ sb m = [] ∧ (gop m).toInt = 11 ∧ vI nl gv tk fc gc f gop gva a m m B hh
theorem vF_fin (F : vF nl gv tk fc gc f gop gva a m (m + 1) D h bo bg bh bd sb) (s2 : rs_I a m gop gpt gel gva lc sb) (s3 : sb m = []) (s4 : (gop m).toInt = 11) : vfin nl gv tk fc gc f gop gpt gel gva lc a m := by
  obtain ⟨B, hh, ⟨k1, k2, k3⟩, -⟩ := F
  exact ⟨sb, B, hh, s2, s3, s4, fun j j1 j2 j3 => k1 j j1 (by omega) j3, fun j j1 j2 j3 => k2 j j1 (by omega) j3, k3⟩
end VF

/-! the validator's rows as a state, and what one instruction does to it -/
def vs_stk (bo bg bh bd : Nat → Int32) : Nat → List vt
  | 0 => []
  | k + 1 => ((bo k).toInt, (bg k).toInt, (bh k).toInt, (bd k).toInt) :: vs_stk bo bg bh bd k
theorem vs_stk_eq {bo bg bh bd bo2 bg2 bh2 bd2 : Nat → Int32} : ∀ k : Nat, (∀ j, j < k → bo2 j = bo j ∧ bg2 j = bg j ∧ bh2 j = bh j ∧ bd2 j = bd j) → vs_stk bo2 bg2 bh2 bd2 k = vs_stk bo bg bh bd k
  | 0, _ => rfl
  | k + 1, h => by
    obtain ⟨e1, e2, e3, e4⟩ := h k (Nat.lt_succ_self _)
    show ((bo2 k).toInt, (bg2 k).toInt, (bh2 k).toInt, (bd2 k).toInt) :: vs_stk bo2 bg2 bh2 bd2 k = _
    rw [e1, e2, e3, e4, vs_stk_eq k (fun j hj => h j (Nat.lt_succ_of_lt hj))]
    rfl
theorem vs_stk_pos {bo bg bh bd : Nat → Int32} (hp : ∀ j : Nat, 0 ≤ (bh j).toInt ∧ (bh j).toInt ≤ 5000) : ∀ k : Nat, ∀ x ∈ vs_stk bo bg bh bd k, 0 ≤ x.2.2.1
  | 0, x, h => by cases h
  | k + 1, x, h => by
    rcases List.mem_cons.mp h with e | e
    · rw [e]
      exact (hp k).1
    · exact vs_stk_pos hp k x e
theorem vs_stk_ne {bo bg bh bd : Nat → Int32} {k : Nat} (h : 1 ≤ k) : vs_stk bo bg bh bd k ≠ [] := by
  cases k with
  | zero => omega
  | succ k => intro e; cases e
def vo (nl gv tk : Nat → Int) (fc gc : Int) (f : Nat) (op v : Int) (D h D2 h2 : Int32) (bo bg bh bd bo2 bg2 bh2 bd2 : Nat → Int32) : Prop :=
  ((op = 11 → 2 ≤ D.toInt) → vr nl gv tk fc gc f op v (vs_stk bo bg bh bd D.toNatClampNeg) h.toInt (vs_stk bo2 bg2 bh2 bd2 D2.toNatClampNeg) h2.toInt ∧ (∀ k : Nat, (k : Int) + 1 < D2.toInt → (bh2 k).toInt ≤ (bh2 (k + 1)).toInt) ∧ (bh2 (D2.toInt - 1).toNat).toInt ≤ h2.toInt ∧ h2.toInt ≤ h.toInt + 1) ∧
  (op = 2 ∨ op = 3 ∨ op = 4 → D2.toInt = D.toInt + 1) ∧ (op = 11 → D2.toInt = D.toInt - 1) ∧ (op ≠ 2 → op ≠ 3 → op ≠ 4 → op ≠ 11 → D2.toInt = D.toInt)
section VO
variable {nl gv tk : Nat → Int} {fc gc : Int} {f : Nat} {op v : Int} {D h D2 h2 : Int32} {bo bg bh bd bo2 bg2 bh2 bd2 : Nat → Int32}
/-- an instruction that leaves the rows alone -/
theorem vo_plain (hD : 1 ≤ D.toInt) (hm : ∀ k : Nat, (k : Int) + 1 < D.toInt → (bh k).toInt ≤ (bh (k + 1)).toInt) (hT : (bh (D.toInt - 1).toNat).toInt ≤ h.toInt) (r1 : (bh (D.toInt - 1).toNat).toInt ≤ h2.toInt) (r2 : h2.toInt ≤ h.toInt + 1)
    (n0 : op ≠ 0 ∧ op ≠ 12 ∧ op ≠ 14 ∧ op ≠ 15) (n1 : op ≠ 2 ∧ op ≠ 3 ∧ op ≠ 4 ∧ op ≠ 5 ∧ op ≠ 11) (c1 : op = 1 → h2 = h)
    (c16 : op = 16 → 0 ≤ v ∧ v < fc ∧ ((bd (D.toInt - 1).toNat).toInt = 0 → (bh (D.toInt - 1).toNat).toInt + tk v.toNat ≤ h.toInt ∧ h2.toInt = h.toInt - tk v.toNat + gv v.toNat))
    (cv : 32 ≤ op ∧ op ≤ 34 → 0 ≤ v ∧ v < nl f) (cg : op = 35 ∨ op = 36 → 0 ≤ v ∧ v < gc)
    (c : (bd (D.toInt - 1).toNat).toInt = 0 → 
      (op = 13 ∨ op = 26 ∨ op = 33 ∨ op = 36 → (bh (D.toInt - 1).toNat).toInt + 1 ≤ h.toInt ∧ h2.toInt = h.toInt - 1) ∧ (op = 27 → (bh (D.toInt - 1).toNat).toInt + 3 ≤ h.toInt ∧ h2.toInt = h.toInt - 2) ∧
      (op = 32 ∨ op = 35 ∨ op = 63 ∨ op = 65 ∨ op = 66 → h2.toInt = h.toInt + 1) ∧ (op = 54 ∨ op = 55 ∨ op = 58 → (bh (D.toInt - 1).toNat).toInt + 2 ≤ h.toInt ∧ h2.toInt = h.toInt - 2) ∧
      (op = 34 ∨ op = 64 ∨ op = 40 ∨ op = 41 ∨ op = 44 ∨ op = 45 ∨ op = 69 ∨ op = 80 ∨ (103 ≤ op ∧ op < 106) ∨ (121 ≤ op ∧ op < 124) ∨ 138 < op → (bh (D.toInt - 1).toNat).toInt + 1 ≤ h.toInt ∧ h2.toInt = h.toInt) ∧
      ((69 < op ∧ op < 80) ∨ (80 < op ∧ op ≤ 90) ∨ (106 ≤ op ∧ op < 121) ∨ (124 ≤ op ∧ op ≤ 138) → (bh (D.toInt - 1).toNat).toInt + 2 ≤ h.toInt ∧ h2.toInt = h.toInt - 1)) :
    vo nl gv tk fc gc f op v D h D h2 bo bg bh bd bo bg bh bd := by
  obtain ⟨T, eT⟩ : ∃ T, T = (D.toInt - 1).toNat := ⟨_, rfl⟩
  have eD : D.toNatClampNeg = T + 1 := by rw [i32_natI rfl]; omega
  rw [← eT] at hT r1 c c16
  refine ⟨fun _ => ⟨?_, hm, by rw [← eT]; exact r1, r2⟩, fun z => by omega, fun z => by omega, fun _ _ _ _ => rfl⟩
  rw [eD]
  refine ⟨(bo T).toInt, (bg T).toInt, (bh T).toInt, (bd T).toInt, vs_stk bo bg bh bd T, rfl, hT, fun z => (by clear c c16 cv cg c1 hm; omega), fun z => (by clear c c16 cv cg c1 hm; omega), fun z => ⟨rfl, by rw [c1 z]⟩, fun z => (by clear c c16 cv cg c1 hm; omega), fun z => (by clear c c16 cv cg c1 hm; omega), fun z => (by clear c c16 cv cg c1 hm; omega), fun z => (by clear c c16 cv cg c1 hm; omega), fun z => ⟨rfl, r1, fun y => ?_⟩, fun z => ⟨(c16 z).1, (c16 z).2.1, rfl, r1, (c16 z).2.2⟩, fun z => ⟨rfl, r1, fun y => ?_⟩, fun z => ⟨rfl, r1, fun y => ?_⟩, cv, cg, fun z => ⟨rfl, r1, fun y => ?_⟩, fun z => ⟨rfl, r1, fun y => ?_⟩, fun z => ⟨rfl, r1, fun y => ?_⟩, fun z => ⟨rfl, r1, fun y => ?_⟩, fun z => ⟨rfl, r1, fun y => ?_⟩⟩
  · have w := (c y).1 (by clear n0 n1 c c16 cv cg c1 hm; omega)
    clear n0 n1 c c16 cv cg c1 hm
    omega
  · have w := (c y).1 (by clear n0 n1 c c16 cv cg c1 hm; omega)
    clear n0 n1 c c16 cv cg c1 hm
    omega
  · have w := (c y).2.1 z
    clear n0 n1 c c16 cv cg c1 hm
    omega
  · have w := (c y).2.2.1 z
    clear n0 n1 c c16 cv cg c1 hm
    omega
  · have w := (c y).1 (by clear n0 n1 c c16 cv cg c1 hm; omega)
    clear n0 n1 c c16 cv cg c1 hm
    omega
  · have w := (c y).2.2.2.1 z
    clear n0 n1 c c16 cv cg c1 hm
    omega
  · have w := (c y).2.2.2.2.1 z
    clear n0 n1 c c16 cv cg c1 hm
    omega
  · have w := (c y).2.2.2.2.2 z
    clear n0 n1 c c16 cv cg c1 hm
    omega
/-- what follows can't be reached -/
theorem vo_die (hD : 1 ≤ D.toInt) (hm : ∀ k : Nat, (k : Int) + 1 < D.toInt → (bh k).toInt ≤ (bh (k + 1)).toInt) (hT : (bh (D.toInt - 1).toNat).toInt ≤ h.toInt) {x : Int32} (e : h2.toInt = (bh (D.toInt - 1).toNat).toInt) (eb : bd2 = upd bd (D.toInt - 1).toNat x)
    (n0 : op = 0 ∨ op = 12 ∨ op = 14 ∨ op = 15) (c : op = 14 → (bd (D.toInt - 1).toNat).toInt = 0 → (bh (D.toInt - 1).toNat).toInt + 1 ≤ h.toInt) : vo nl gv tk fc gc f op v D h D h2 bo bg bh bd bo bg bh bd2 := by
  obtain ⟨T, eT⟩ : ∃ T, T = (D.toInt - 1).toNat := ⟨_, rfl⟩
  have eD : D.toNatClampNeg = T + 1 := by rw [i32_natI rfl]; omega
  rw [← eT] at hT e eb c
  refine ⟨fun _ => ⟨?_, hm, by rw [← eT]; omega, by omega⟩, fun z => by omega, fun z => by omega, fun _ _ _ _ => rfl⟩
  have e2 : vs_stk bo bg bh bd2 T = vs_stk bo bg bh bd T := vs_stk_eq T (fun j hj => ⟨rfl, rfl, rfl, by rw [eb, pk_un (by omega)]⟩)
  rw [eD]
  refine ⟨(bo T).toInt, (bg T).toInt, (bh T).toInt, (bd T).toInt, vs_stk bo bg bh bd T, rfl, hT, fun _ => ⟨(bd2 T).toInt, ?_, by omega⟩, c, fun z => (by clear c hm; omega), fun z => (by clear c hm; omega), fun z => (by clear c hm; omega), fun z => (by clear c hm; omega), fun z => (by clear c hm; omega), fun z => (by clear c hm; omega), fun z => (by clear c hm; omega), fun z => (by clear c hm; omega), fun z => (by clear c hm; omega), fun z => (by clear c hm; omega), fun z => (by clear c hm; omega), fun z => (by clear c hm; omega), fun z => (by clear c hm; omega), fun z => (by clear c hm; omega), fun z => (by clear c hm; omega), fun z => (by clear c hm; omega)⟩
  show (_ :: vs_stk bo bg bh bd2 T) = _
  rw [e2]
theorem vo_open (hD : 1 ≤ D.toInt) (hm : ∀ k : Nat, (k : Int) + 1 < D.toInt → (bh k).toInt ≤ (bh (k + 1)).toInt) (hT : (bh (D.toInt - 1).toNat).toInt ≤ h.toInt) {o w : Int32} (ho : o.toInt = op) (hw : w.toInt = v) (eD2 : D2.toInt = D.toInt + 1) (e1 : bo2 = upd bo D.toNatClampNeg o) (e2 : bg2 = upd bg D.toNatClampNeg w) (e3 : bh2 = upd bh D.toNatClampNeg h2) (e4 : bd2 = upd bd D.toNatClampNeg (vp_nar .boolean 0))
    (n0 : op = 2 ∨ op = 3 ∨ op = 4) (r1 : (bh (D.toInt - 1).toNat).toInt ≤ h2.toInt) (r2 : h2.toInt ≤ h.toInt) (c2 : op = 2 ∨ op = 3 → h2.toInt = h.toInt) (c4 : op = 4 → (bd (D.toInt - 1).toNat).toInt = 0 → (bh (D.toInt - 1).toNat).toInt + 1 ≤ h.toInt ∧ h2.toInt = h.toInt - 1) :
    vo nl gv tk fc gc f op v D h D2 h2 bo bg bh bd bo2 bg2 bh2 bd2 := by
  obtain ⟨T, eT⟩ : ∃ T, T = (D.toInt - 1).toNat := ⟨_, rfl⟩
  have eD : D.toNatClampNeg = T + 1 := by rw [i32_natI rfl]; omega
  have eDD : D2.toNatClampNeg = T + 1 + 1 := by rw [i32_natI rfl]; omega
  rw [← eT] at hT r1 c4
  rw [eD] at e1 e2 e3 e4
  have k0 : (vp_nar .boolean 0).toInt = 0 := by decide
  have es : vs_stk bo2 bg2 bh2 bd2 (T + 1) = vs_stk bo bg bh bd (T + 1) := vs_stk_eq (T + 1) (fun j hj => ⟨by rw [e1, pk_un (by omega)], by rw [e2, pk_un (by omega)], by rw [e3, pk_un (by omega)], by rw [e4, pk_un (by omega)]⟩)
  have et : vs_stk bo2 bg2 bh2 bd2 (T + 1 + 1) = (op, v, h2.toInt, 0) :: vs_stk bo bg bh bd (T + 1) := by
    show ((bo2 (T + 1)).toInt, (bg2 (T + 1)).toInt, (bh2 (T + 1)).toInt, (bd2 (T + 1)).toInt) :: vs_stk bo2 bg2 bh2 bd2 (T + 1) = _
    rw [es, e1, e2, e3, e4, pk_us, pk_us, pk_us, pk_us, ho, hw, k0]
  refine ⟨fun _ => ⟨?_, fun k hk => ?_, ?_, by omega⟩, fun _ => eD2, fun z => by omega, fun z1 z2 z3 _ => by omega⟩
  · rw [eD, eDD, et]
    refine ⟨(bo T).toInt, (bg T).toInt, (bh T).toInt, (bd T).toInt, vs_stk bo bg bh bd T, rfl, hT, fun z => (by clear c2 c4 hm; omega), fun z => (by clear c2 c4 hm; omega), fun z => (by clear c2 c4 hm; omega), fun z => ⟨by rw [c2 z], c2 z⟩, fun z => ⟨by rw [z], r1, c4 z⟩, fun z => (by clear c2 c4 hm; omega), fun z => (by clear c2 c4 hm; omega), fun z => (by clear c2 c4 hm; omega), fun z => (by clear c2 c4 hm; omega), fun z => (by clear c2 c4 hm; omega), fun z => (by clear c2 c4 hm; omega), fun z => (by clear c2 c4 hm; omega), fun z => (by clear c2 c4 hm; omega), fun z => (by clear c2 c4 hm; omega), fun z => (by clear c2 c4 hm; omega), fun z => (by clear c2 c4 hm; omega), fun z => (by clear c2 c4 hm; omega), fun z => (by clear c2 c4 hm; omega)⟩
  · by_cases q : k + 1 = T + 1
    · rw [e3, q, pk_us, pk_un (by omega), show k = T by omega]
      exact r1
    · rw [e3, pk_un q, pk_un (show k ≠ T + 1 by omega)]
      exact hm k (by omega)
  · rw [e3, show (D2.toInt - 1).toNat = T + 1 by omega, pk_us]
    exact Int.le_refl _
theorem vo_else (hD : 1 ≤ D.toInt) (hm : ∀ k : Nat, (k : Int) + 1 < D.toInt → (bh k).toInt ≤ (bh (k + 1)).toInt) (hT : (bh (D.toInt - 1).toNat).toInt ≤ h.toInt) {o w : Int32} (ho : o.toInt = 5) (hw : w = bg (D.toInt - 1).toNat) (eD2 : D2.toInt = D.toInt) (e1 : bo2 = upd bo (D.toInt - 1).toNat o) (e2 : bg2 = upd bg (D.toInt - 1).toNat w) (e3 : bh2 = upd bh (D.toInt - 1).toNat h2) (e4 : bd2 = upd bd (D.toInt - 1).toNat (vp_nar .boolean 0))
    (n0 : op = 5) (eh : h2.toInt = (bh (D.toInt - 1).toNat).toInt) (c : (bd (D.toInt - 1).toNat).toInt = 0 → ((bg (D.toInt - 1).toNat).toInt = 64 → h.toInt = (bh (D.toInt - 1).toNat).toInt) ∧ ((bg (D.toInt - 1).toNat).toInt ≠ 64 → h.toInt = (bh (D.toInt - 1).toNat).toInt + 1)) :
    vo nl gv tk fc gc f op v D h D2 h2 bo bg bh bd bo2 bg2 bh2 bd2 := by
  obtain ⟨T, eT⟩ : ∃ T, T = (D.toInt - 1).toNat := ⟨_, rfl⟩
  have eD : D.toNatClampNeg = T + 1 := by rw [i32_natI rfl]; omega
  have eDD : D2.toNatClampNeg = T + 1 := by rw [i32_natI rfl]; omega
  rw [← eT] at hT c e1 e2 e3 e4 eh hw
  have k0 : (vp_nar .boolean 0).toInt = 0 := by decide
  have es : vs_stk bo2 bg2 bh2 bd2 T = vs_stk bo bg bh bd T := vs_stk_eq T (fun j hj => ⟨by rw [e1, pk_un (by omega)], by rw [e2, pk_un (by omega)], by rw [e3, pk_un (by omega)], by rw [e4, pk_un (by omega)]⟩)
  have et : vs_stk bo2 bg2 bh2 bd2 (T + 1) = (5, (bg T).toInt, (bh T).toInt, 0) :: vs_stk bo bg bh bd T := by
    show ((bo2 T).toInt, (bg2 T).toInt, (bh2 T).toInt, (bd2 T).toInt) :: vs_stk bo2 bg2 bh2 bd2 T = _
    rw [es, e1, e2, e3, e4, pk_us, pk_us, pk_us, pk_us, ho, hw, k0, eh]
  have hga : (bd T).toInt = 0 → h.toInt = (bh T).toInt + ga (bg T).toInt := by
    intro z
    unfold ga
    split
    · rename_i q
      rw [(c z).1 q]
      omega
    · rename_i q
      exact (c z).2 q
  refine ⟨fun _ => ⟨?_, fun k hk => ?_, ?_, by omega⟩, fun z => by omega, fun z => by omega, fun _ _ _ _ => eD2⟩
  · rw [eD, eDD, et]
    refine ⟨(bo T).toInt, (bg T).toInt, (bh T).toInt, (bd T).toInt, vs_stk bo bg bh bd T, rfl, hT, fun z => (by clear c hga hm; omega), fun z => (by clear c hga hm; omega), fun z => (by clear c hga hm; omega), fun z => (by clear c hga hm; omega), fun z => (by clear c hga hm; omega), fun z => ⟨rfl, eh, hga⟩, fun z => (by clear c hga hm; omega), fun z => (by clear c hga hm; omega), fun z => (by clear c hga hm; omega), fun z => (by clear c hga hm; omega), fun z => (by clear c hga hm; omega), fun z => (by clear c hga hm; omega), fun z => (by clear c hga hm; omega), fun z => (by clear c hga hm; omega), fun z => (by clear c hga hm; omega), fun z => (by clear c hga hm; omega), fun z => (by clear c hga hm; omega), fun z => (by clear c hga hm; omega)⟩
  · by_cases q : k + 1 = T
    · rw [e3, q, pk_us, pk_un (by omega), eh, ← q]
      exact hm k (by omega)
    · rw [e3, pk_un q, pk_un (show k ≠ T by omega)]
      exact hm k (by omega)
  · rw [e3, show (D2.toInt - 1).toNat = T by omega, pk_us]
    exact Int.le_refl _
theorem vo_close (hD : 1 ≤ D.toInt) (hm : ∀ k : Nat, (k : Int) + 1 < D.toInt → (bh k).toInt ≤ (bh (k + 1)).toInt) (hT : (bh (D.toInt - 1).toNat).toInt ≤ h.toInt) (eD2 : D2.toInt = D.toInt - 1) (n0 : op = 11) (c4 : (bo (D.toInt - 1).toNat).toInt = 4 → (bg (D.toInt - 1).toNat).toInt = 64)
    (c : (bd (D.toInt - 1).toNat).toInt = 0 → ((bg (D.toInt - 1).toNat).toInt = 64 → h.toInt = (bh (D.toInt - 1).toNat).toInt) ∧ ((bg (D.toInt - 1).toNat).toInt ≠ 64 → h.toInt = (bh (D.toInt - 1).toNat).toInt + 1))
    (c2 : 2 ≤ D.toInt → ((bg (D.toInt - 1).toNat).toInt = 64 → h2.toInt = (bh (D.toInt - 1).toNat).toInt) ∧ ((bg (D.toInt - 1).toNat).toInt ≠ 64 → h2.toInt = (bh (D.toInt - 1).toNat).toInt + 1)) :
    vo nl gv tk fc gc f op v D h D2 h2 bo bg bh bd bo bg bh bd := by
  obtain ⟨T, eT⟩ : ∃ T, T = (D.toInt - 1).toNat := ⟨_, rfl⟩
  have eD : D.toNatClampNeg = T + 1 := by rw [i32_natI rfl]; omega
  have eDD : D2.toNatClampNeg = T := by rw [i32_natI rfl]; omega
  rw [← eT] at hT c c2 c4
  refine ⟨fun z2 => ?_, fun z => by omega, fun _ => eD2, fun _ _ _ z => absurd n0 z⟩
  have h2D := z2 n0
  have hga : (bd T).toInt = 0 → h.toInt = (bh T).toInt + ga (bg T).toInt := by
    intro z
    unfold ga
    split
    · rename_i q
      rw [(c z).1 q]
      omega
    · rename_i q
      exact (c z).2 q
  have hga2 : h2.toInt = (bh T).toInt + ga (bg T).toInt := by
    unfold ga
    split
    · rename_i q
      rw [(c2 h2D).1 q]
      omega
    · rename_i q
      exact (c2 h2D).2 q
  have hg01 : 0 ≤ ga (bg T).toInt ∧ ga (bg T).toInt ≤ 1 := by unfold ga; split <;> omega
  refine ⟨?_, fun k hk => hm k (by omega), ?_, by omega⟩
  · rw [eD, eDD]
    refine ⟨(bo T).toInt, (bg T).toInt, (bh T).toInt, (bd T).toInt, vs_stk bo bg bh bd T, rfl, hT, fun z => (by clear c c2 c4 hga hga2 hm z2; omega), fun z => (by clear c c2 c4 hga hga2 hm z2; omega), fun z => (by clear c c2 c4 hga hga2 hm z2; omega), fun z => (by clear c c2 c4 hga hga2 hm z2; omega), fun z => (by clear c c2 c4 hga hga2 hm z2; omega), fun z => (by clear c c2 c4 hga hga2 hm z2; omega), fun _ => ⟨hga, c4, fun _ => ⟨rfl, hga2⟩⟩, fun z => (by clear c c2 c4 hga hga2 hm z2; omega), fun z => (by clear c c2 c4 hga hga2 hm z2; omega), fun z => (by clear c c2 c4 hga hga2 hm z2; omega), fun z => (by clear c c2 c4 hga hga2 hm z2; omega), fun z => (by clear c c2 c4 hga hga2 hm z2; omega), fun z => (by clear c c2 c4 hga hga2 hm z2; omega), fun z => (by clear c c2 c4 hga hga2 hm z2; omega), fun z => (by clear c c2 c4 hga hga2 hm z2; omega), fun z => (by clear c c2 c4 hga hga2 hm z2; omega), fun z => (by clear c c2 c4 hga hga2 hm z2; omega), fun z => (by clear c c2 c4 hga hga2 hm z2; omega)⟩
  · have w := hm (D2.toInt - 1).toNat (by omega)
    rw [show (D2.toInt - 1).toNat + 1 = T by omega] at w
    omega
end VO
/-- the states up to instruction i -/
def vI (nl gv tk : Nat → Int) (fc gc : Int) (f : Nat) (gop : Nat → Int32) (gva : Nat → Int64) (a m i : Nat) (B : Nat → List vt) (hh : Nat → Int) : Prop :=
  (∀ j, a ≤ j → j < i → j < m → vr nl gv tk fc gc f (gop j).toInt (gva j).toInt (B j) (hh j) (B (j + 1)) (hh (j + 1))) ∧ (∀ j, a ≤ j → j ≤ i → j ≤ m → 0 ≤ hh j ∧ ∀ x ∈ B j, 0 ≤ x.2.2.1) ∧ (B a).length = 1 ∧ hh a = 0 ∧ vlive (B a) = true
theorem vI_next {nl gv tk : Nat → Int} {fc gc : Int} {f a m i : Nat} {gop : Nat → Int32} {gva : Nat → Int64} {B : Nat → List vt} {hh : Nat → Int} {S S2 : List vt} {x x2 : Int} (h : vI nl gv tk fc gc f gop gva a m i B hh) (hi : a ≤ i) (him : i ≤ m) (e1 : B i = S) (e2 : hh i = x) (hv : i < m → vr nl gv tk fc gc f (gop i).toInt (gva i).toInt S x S2 x2) (h0 : i < m → 0 ≤ x2 ∧ ∀ y ∈ S2, 0 ≤ y.2.2.1) :
    ∃ B2 hh2, vI nl gv tk fc gc f gop gva a m (i + 1) B2 hh2 ∧ B2 (i + 1) = S2 ∧ hh2 (i + 1) = x2 := by
  obtain ⟨k1, k2, k3, k4, k5⟩ := h
  have p1 : ∀ j, j ≤ i → (fun j => if j ≤ i then B j else S2) j = B j := fun j hj => if_pos hj
  have p2 : ∀ j, j ≤ i → (fun j => if j ≤ i then hh j else x2) j = hh j := fun j hj => if_pos hj
  have q1 : (fun j => if j ≤ i then B j else S2) (i + 1) = S2 := if_neg (by omega)
  have q2 : (fun j => if j ≤ i then hh j else x2) (i + 1) = x2 := if_neg (by omega)
  refine ⟨fun j => if j ≤ i then B j else S2, fun j => if j ≤ i then hh j else x2, ⟨fun j j1 j2 j3 => ?_, fun j j1 j2 j3 => ?_, by rw [p1 a hi]; exact k3, by rw [p2 a hi]; exact k4, by rw [p1 a hi]; exact k5⟩, q1, q2⟩
  · rw [p1 j (by omega), p2 j (by omega)]
    by_cases q : j < i
    · rw [p1 (j + 1) (by omega), p2 (j + 1) (by omega)]
      exact k1 j j1 q j3
    · have e : j = i := by omega
      subst e
      rw [q1, q2, e1, e2]
      exact hv j3
  · by_cases q : j ≤ i
    · rw [p1 j q, p2 j q]
      exact k2 j j1 q j3
    · have e : j = i + 1 := by omega
      subst e
      rw [q1, q2]
      exact h0 (by omega)

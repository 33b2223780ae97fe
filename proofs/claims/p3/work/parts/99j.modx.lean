/-! WaferForge: what the Coder wrote, as the exact Reader asks it -/
def qcx (a b c d e f : List Nat) : Nat → List Nat := fun id => if id = 1 then a else if id = 3 then b else if id = 5 then c else if id = 6 then d else if id = 7 then e else f
theorem modB_x {ft pf : Nat → Int32} {n : Nat} {gc : Int} {bs : List Nat} (hn : n ≤ 20) (hg : gc ≤ 20) (hp : ∀ f, f < n → 0 ≤ tkF pf f ∧ tkF pf f ≤ 8 ∧ ty (ft f).toInt) (h : modB ft pf (n : Int) gc bs) :
    ∃ (qct : Nat → List Nat) (qg : Bool) (qTs qtb : List Nat) (qto : Nat → Int32) (qG : List (Nat × Int)) (qX : List (List Nat × Nat × Nat)) (qcb : List Nat) (qI : Nat),
      bs = [0, 97, 115, 109, 1, 0, 0, 0] ++ rs9 qct qg 1 ∧ (bs.length : Int) = 8 + ((rs9 qct qg 1).length : Int) ∧ (qg = true ↔ qG ≠ []) ∧ (qG.length : Int) = gc ∧ tyI qto (tkF pf) ft n qTs ∧
      (qct 1 = qTs.length :: qtb ∧ qTs.length ≤ 20 ∧ tB (tkF pf) ft qTs qtb ∧ (∀ r ∈ qTs, tkF pf r ≤ 8) ∧ (∀ r ∈ qTs, ty (ft r).toInt)) ∧
      (qct 3 = n :: tol qto n ∧ n ≤ 20 ∧ ∀ f, f < n → 0 ≤ (qto f).toInt ∧ (qto f).toInt < 128) ∧ qct 5 = [1, 1, 1, 2] ∧ (qct 6 = qG.length :: gbl qG ∧ qG.length ≤ 20 ∧ ∀ x ∈ qG, gok x) ∧
      (qct 7 = qX.length :: exb qX ∧ qX.length ≤ 40 ∧ ∀ x ∈ qX, eok x) ∧ (qct 10 = n :: qcb ∧ n ≤ 20 ∧ cF (gvF ft) (tkF pf) n gc ft 0 n qcb qI ∧ qI ≤ 5000) := by
  obtain ⟨to, R, tb, gs, G, L, cb, I, h1, h2, hq9r⟩ := h
  obtain ⟨h3, h4, h5, h6, h7, h8, h9, h10, h11⟩ := hq9r
  have en : ((n : Int)).toNat = n := rfl
  rw [en] at h1 h8 h11
  obtain ⟨t1, t2⟩ := tyI_len n h1
  obtain ⟨X, x1, x2, x3⟩ := exb_xl L 0 h7 (by omega)
  have hm : exb (X ++ [([109, 101, 109, 111, 114, 121], 2, 0)]) = xl 0 L ++ memB := by rw [exb_app, x3]; rfl
  have hX : (X ++ [(([109, 101, 109, 111, 114, 121] : List Nat), 2, 0)]).length = n + 1 := by rw [List.length_append, x1, List.length_singleton]; omega
  have hc := cF_of n 0 (bs := []) (I1 := 0) h8 ⟨rfl, rfl⟩
  rw [Nat.add_zero, List.append_nil, Nat.add_zero] at hc
  obtain ⟨X9, hX9⟩ : ∃ z : List (List Nat × Nat × Nat), z = X ++ [([109, 101, 109, 111, 114, 121], 2, 0)] := ⟨_, rfl⟩
  rw [← hX9] at hm hX
  have hx9 : ∀ x ∈ X9, eok x := fun x hx => by
    rw [hX9] at hx
    rcases List.mem_append.mp hx with hx | hx
    · exact x2 x hx
    · rw [List.mem_singleton] at hx
      rw [hx]
      exact ⟨by decide, by decide, by decide⟩
  clear hX9 x1 x2 x3
  have e7 : (n + 1) :: (xl 0 L ++ memB) = X9.length :: exb X9 := by rw [hX, hm]
  rw [e7] at h11
  clear e7 hm
  obtain ⟨ct, hct⟩ : ∃ ct : Nat → List Nat, ct = qcx (R.length :: tb) (n :: tol to n) [1, 1, 1, 2] (G.length :: gbl G) (X9.length :: exb X9) (n :: cb) := ⟨_, rfl⟩
  have c1 : ct 1 = R.length :: tb := by rw [hct]; rfl
  have c3 : ct 3 = n :: tol to n := by rw [hct]; rfl
  have c5 : ct 5 = [1, 1, 1, 2] := by rw [hct]; rfl
  have c6 : ct 6 = G.length :: gbl G := by rw [hct]; rfl
  have c7 : ct 7 = X9.length :: exb X9 := by rw [hct]; rfl
  have c10 : ct 10 = n :: cb := by rw [hct]; rfl
  clear hct
  have e9 : ∃ g : Bool, bs = [0, 97, 115, 109, 1, 0, 0, 0] ++ rs9 ct g 1 ∧ (g = true ↔ G ≠ []) := by
    rcases h5 with ⟨g0, g1⟩ | ⟨g0, g1⟩
    · have hG : G = [] := List.eq_nil_of_length_eq_zero (by omega)
      refine ⟨false, ?_, ⟨fun z => (by cases z), fun z => absurd hG z⟩⟩
      rw [h11, g1, List.nil_append, show rs9 ct false 1 = sec 1 (ct 1) ++ (sec 3 (ct 3) ++ (sec 5 (ct 5) ++ (sec 7 (ct 7) ++ sec 10 (ct 10)))) from rfl, c1, c3, c5, c7, c10]
    · have hG : G ≠ [] := fun z => by rw [z, List.length_nil] at h3; omega
      refine ⟨true, ?_, ⟨fun _ => hG, fun _ => rfl⟩⟩
      rw [h11, g1, show rs9 ct true 1 = sec 1 (ct 1) ++ (sec 3 (ct 3) ++ (sec 5 (ct 5) ++ (sec 6 (ct 6) ++ (sec 7 (ct 7) ++ sec 10 (ct 10))))) from rfl, c1, c3, c5, c6, c7, c10]
  obtain ⟨g, e9, e8⟩ := e9
  have e10 : (bs.length : Int) = 8 + ((rs9 ct g 1).length : Int) := by
    have q := congrArg List.length e9
    rw [List.length_append, show ([0, 97, 115, 109, 1, 0, 0, 0] : List Nat).length = 8 from rfl] at q
    rw [q]
    exact Int.natCast_add 8 _
  refine ⟨ct, g, R, tb, to, G, X9, cb, I, e9, e10, e8, h3, h1, ⟨c1, by omega, h2, fun r hr => (hp r (t2 r hr)).2.1, fun r hr => (hp r (t2 r hr)).2.2⟩, ⟨c3, hn, fun f hf => ?_⟩, c5, ⟨c6, by omega, h4⟩, ⟨c7, by rw [hX]; omega, hx9⟩, ⟨c10, hn, hc, by omega⟩⟩
  obtain ⟨q0, r, q1, -⟩ := tyI_get n h1 f hf
  have := (List.getElem?_eq_some_iff.mp q1).1
  exact ⟨q0, by omega⟩

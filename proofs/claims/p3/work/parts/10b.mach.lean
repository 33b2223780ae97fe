/-! the machine's frames: a picture. an: what stands at an instruction (function, open blocks with their heights, height), where it can be reached -/
abbrev mc_A : Type := Nat → Option (Nat × List (Nat × Int) × Int)
def mc_lb (lb lh : Nat → Int32) (bs : List (Nat × Int)) (base LC : Int) : Prop :=
  ∀ (j : Nat) (b : Nat × Int), bs[j]? = some b → (lb (LC - 1 - j).toNat).toInt = b.1 ∧ (lh (LC - 1 - j).toNat).toInt = base + b.2 ∧ 0 ≤ base + b.2 ∧ base + b.2 ≤ 12096 ∧ (b.1 : Int) < 5000
def mc_one (nl : Nat → Int) (fs ff fl lb lh : Nat → Int32) (k f : Nat) (bs : List (Nat × Int)) (LC : Int) : Prop :=
  (ff k).toInt = f ∧ 0 ≤ (fs k).toInt ∧ (fs k).toInt ≤ 12096 ∧ 0 ≤ (fl k).toInt ∧ (fl k).toInt ≤ 100 * k ∧ LC = (fl k).toInt + bs.length ∧ bs.length ≤ 100 ∧ mc_lb lb lh bs ((fs k).toInt + nl f) LC
def mc_fr (an : mc_A) (nl gv : Nat → Int) (fb fs ff fl lb lh : Nat → Int32) : Nat → Int → Int → Int → Prop
  | 0, pc, H, LC => ∃ (f : Nat) (bs : List (Nat × Int)) (h : Int), 0 ≤ pc ∧ an pc.toNat = some (f, bs, h) ∧ H = (fs 0).toInt + nl f + h ∧ mc_one nl fs ff fl lb lh 0 f bs LC
  | k + 1, pc, H, LC => ∃ (f : Nat) (bs : List (Nat × Int)) (h : Int), 0 ≤ pc ∧ an pc.toNat = some (f, bs, h) ∧ H = (fs (k + 1)).toInt + nl f + h ∧ mc_one nl fs ff fl lb lh (k + 1) f bs LC ∧ mc_fr an nl gv fb fs ff fl lb lh k (fb (k + 1)).toInt ((fs (k + 1)).toInt + gv f) (fl (k + 1)).toInt
def mc_bl (an : mc_A) (nl gv : Nat → Int) (fb fs ff fl lb lh : Nat → Int32) : Nat → Nat → Prop
  | 0, _ => True
  | k + 1, f => mc_fr an nl gv fb fs ff fl lb lh k (fb (k + 1)).toInt ((fs (k + 1)).toInt + gv f) (fl (k + 1)).toInt
def mc_tp (an : mc_A) (nl gv : Nat → Int) (fb fs ff fl lb lh : Nat → Int32) (k f : Nat) (bs : List (Nat × Int)) (LC : Int) : Prop :=
  mc_one nl fs ff fl lb lh k f bs LC ∧ mc_bl an nl gv fb fs ff fl lb lh k f
section MC
variable {an : mc_A} {nl gv : Nat → Int} {fb fs ff fl lb lh fb' fs' ff' fl' lb' lh' : Nat → Int32}
theorem mc_fr_of {k f : Nat} {bs : List (Nat × Int)} {pc H LC h : Int} (h0 : 0 ≤ pc) (h1 : an pc.toNat = some (f, bs, h)) (h2 : H = (fs k).toInt + nl f + h) (h3 : mc_tp an nl gv fb fs ff fl lb lh k f bs LC) : mc_fr an nl gv fb fs ff fl lb lh k pc H LC := by
  cases k with
  | zero => exact ⟨f, bs, h, h0, h1, h2, h3.1⟩
  | succ k => exact ⟨f, bs, h, h0, h1, h2, h3.1, h3.2⟩
theorem mc_fr_to {k : Nat} {pc H LC : Int} (hh : mc_fr an nl gv fb fs ff fl lb lh k pc H LC) : ∃ (f : Nat) (bs : List (Nat × Int)) (h : Int), 0 ≤ pc ∧ an pc.toNat = some (f, bs, h) ∧ H = (fs k).toInt + nl f + h ∧ mc_tp an nl gv fb fs ff fl lb lh k f bs LC := by
  cases k with
  | zero =>
    obtain ⟨f, bs, h, h0, h1, h2, h3⟩ := hh
    exact ⟨f, bs, h, h0, h1, h2, h3, trivial⟩
  | succ k =>
    obtain ⟨f, bs, h, h0, h1, h2, h3, h4⟩ := hh
    exact ⟨f, bs, h, h0, h1, h2, h3, h4⟩
theorem mc_lb.congr {bs : List (Nat × Int)} {base LC : Int} (h : mc_lb lb lh bs base LC) (hl : (bs.length : Int) ≤ LC) (e : ∀ i : Nat, (i : Int) < LC → lb' i = lb i ∧ lh' i = lh i) : mc_lb lb' lh' bs base LC := by
  intro j b hj
  have hlt : j < bs.length := (List.getElem?_eq_some_iff.mp hj).1
  obtain ⟨e1, e2⟩ := e (LC - 1 - j).toNat (by omega)
  rw [e1, e2]
  exact h j b hj
theorem mc_one.congr {k f : Nat} {bs : List (Nat × Int)} {LC : Int} (h : mc_one nl fs ff fl lb lh k f bs LC) (e1 : fs' k = fs k) (e2 : ff' k = ff k) (e3 : fl' k = fl k) (e : ∀ i : Nat, (i : Int) < LC → lb' i = lb i ∧ lh' i = lh i) : mc_one nl fs' ff' fl' lb' lh' k f bs LC := by
  obtain ⟨a1, a2, a3, a4, a5, a6, a7, a8⟩ := h
  unfold mc_one
  rw [e1, e2, e3]
  exact ⟨a1, a2, a3, a4, a5, a6, a7, a8.congr (by omega) e⟩
theorem mc_fr.congr : ∀ (k : Nat) {pc H LC : Int}, mc_fr an nl gv fb fs ff fl lb lh k pc H LC → (∀ i : Nat, i ≤ k → fb' i = fb i ∧ fs' i = fs i ∧ ff' i = ff i ∧ fl' i = fl i) → (∀ i : Nat, (i : Int) < LC → lb' i = lb i ∧ lh' i = lh i) → mc_fr an nl gv fb' fs' ff' fl' lb' lh' k pc H LC
  | 0, pc, H, LC, hh, e, e' => by
    obtain ⟨f, bs, h, h0, h1, h2, h3⟩ := hh
    obtain ⟨-, q2, q3, q4⟩ := e 0 (Nat.le_refl _)
    exact ⟨f, bs, h, h0, h1, by rw [q2]; exact h2, h3.congr q2 q3 q4 e'⟩
  | k + 1, pc, H, LC, hh, e, e' => by
    obtain ⟨f, bs, h, h0, h1, h2, h3, h4⟩ := hh
    obtain ⟨q1, q2, q3, q4⟩ := e (k + 1) (Nat.le_refl _)
    have hle : (fl (k + 1)).toInt ≤ LC := by
      obtain ⟨-, -, -, -, -, a6, -, -⟩ := h3
      omega
    refine ⟨f, bs, h, h0, h1, by rw [q2]; exact h2, h3.congr q2 q3 q4 e', ?_⟩
    rw [q1, q2, q4]
    exact mc_fr.congr k h4 (fun i hi => e i (Nat.le_succ_of_le hi)) (fun i hi => e' i (by omega))
theorem mc_bl.congr {k f : Nat} (h : mc_bl an nl gv fb fs ff fl lb lh k f) (e : ∀ i : Nat, i ≤ k → fb' i = fb i ∧ fs' i = fs i ∧ ff' i = ff i ∧ fl' i = fl i) (e' : ∀ i : Nat, (i : Int) < (fl k).toInt → lb' i = lb i ∧ lh' i = lh i) : mc_bl an nl gv fb' fs' ff' fl' lb' lh' k f := by
  cases k with
  | zero => trivial
  | succ k =>
    obtain ⟨q1, q2, q3, q4⟩ := e (k + 1) (Nat.le_refl _)
    show mc_fr an nl gv fb' fs' ff' fl' lb' lh' k (fb' (k + 1)).toInt ((fs' (k + 1)).toInt + gv f) (fl' (k + 1)).toInt
    rw [q1, q2, q4]
    exact mc_fr.congr k h (fun i hi => e i (Nat.le_succ_of_le hi)) e'
/-- a block is entered -/
theorem mc_tp.enter {k f i : Nat} {bs : List (Nat × Int)} {LC h : Int} {vi vh : Int32} (hT : mc_tp an nl gv fb fs ff fl lb lh k f bs LC) (hi : vi.toInt = i) (h5 : (i : Int) < 5000) (hv : vh.toInt = (fs k).toInt + nl f + h) (h0 : 0 ≤ vh.toInt) (h1 : vh.toInt ≤ 12096) (hl : bs.length < 100) :
    mc_tp an nl gv fb fs ff fl (upd lb LC.toNat vi) (upd lh LC.toNat vh) k f ((i, h) :: bs) (LC + 1) := by
  obtain ⟨⟨a1, a2, a3, a4, a5, a6, a7, a8⟩, hB⟩ := hT
  refine ⟨⟨a1, a2, a3, a4, a5, by rw [List.length_cons]; omega, by rw [List.length_cons]; omega, ?_⟩, ?_⟩
  · intro j b hj
    cases j with
    | zero =>
      have e : b = (i, h) := by simpa using hj.symm
      have e2 : (LC + 1 - 1 - ((0 : Nat) : Int)).toNat = LC.toNat := by omega
      rw [e2, pk_us, pk_us, e]
      exact ⟨hi, hv, by dsimp only; omega, by dsimp only; omega, h5⟩
    | succ j =>
      have hj' : bs[j]? = some b := by simpa using hj
      have hlt : j < bs.length := (List.getElem?_eq_some_iff.mp hj').1
      have e2 : (LC + 1 - 1 - ((j + 1 : Nat) : Int)).toNat = (LC - 1 - (j : Int)).toNat := by omega
      have e3 : (LC - 1 - (j : Int)).toNat ≠ LC.toNat := by omega
      rw [e2, pk_un e3, pk_un e3]
      exact a8 j b hj'
  · refine hB.congr (fun i _ => ⟨rfl, rfl, rfl, rfl⟩) (fun q hq => ?_)
    have e3 : q ≠ LC.toNat := by omega
    exact ⟨pk_un e3, pk_un e3⟩
/-- blocks are left -/
theorem mc_tp.drop {k f : Nat} {bs : List (Nat × Int)} {LC : Int} (n : Nat) (hT : mc_tp an nl gv fb fs ff fl lb lh k f bs LC) (hn : n ≤ bs.length) : mc_tp an nl gv fb fs ff fl lb lh k f (bs.drop n) (LC - n) := by
  obtain ⟨⟨a1, a2, a3, a4, a5, a6, a7, a8⟩, hB⟩ := hT
  refine ⟨⟨a1, a2, a3, a4, a5, by rw [List.length_drop]; omega, by rw [List.length_drop]; omega, ?_⟩, hB⟩
  intro j b hj
  rw [List.getElem?_drop] at hj
  have e2 : (LC - n - 1 - (j : Int)).toNat = (LC - 1 - ((n + j : Nat) : Int)).toNat := by omega
  rw [e2]
  exact a8 (n + j) b hj
/-- a call: the caller's frame as it is behind it, and a new one -/
theorem mc_tp.call {k f f2 : Nat} {bs : List (Nat × Int)} {LC h base : Int} {vp vb vf vl : Int32} (hT : mc_tp an nl gv fb fs ff fl lb lh k f bs LC) (h0 : 0 ≤ vp.toInt) (ha : an vp.toInt.toNat = some (f, bs, h)) (hb : vb.toInt = base) (hb0 : 0 ≤ base) (hb1 : base ≤ 12096) (hh : base + gv f2 = (fs k).toInt + nl f + h) (hf : vf.toInt = f2) (hl : vl.toInt = LC) :
    mc_tp an nl gv (upd fb (k + 1) vp) (upd fs (k + 1) vb) (upd ff (k + 1) vf) (upd fl (k + 1) vl) lb lh (k + 1) f2 [] LC := by
  have hF : mc_fr an nl gv fb fs ff fl lb lh k vp.toInt (base + gv f2) LC := mc_fr_of h0 ha hh hT
  obtain ⟨⟨a1, a2, a3, a4, a5, a6, a7, a8⟩, hB⟩ := hT
  refine ⟨⟨by rw [pk_us]; exact hf, by rw [pk_us]; omega, by rw [pk_us]; omega, by rw [pk_us]; omega, by rw [pk_us]; omega, by rw [pk_us]; simp; omega, by simp, fun j b hj => by simp at hj⟩, ?_⟩
  show mc_fr an nl gv (upd fb (k + 1) vp) (upd fs (k + 1) vb) (upd ff (k + 1) vf) (upd fl (k + 1) vl) lb lh k (upd fb (k + 1) vp (k + 1)).toInt ((upd fs (k + 1) vb (k + 1)).toInt + gv f2) (upd fl (k + 1) vl (k + 1)).toInt
  rw [pk_us, pk_us, pk_us, hb, hl]
  exact hF.congr k (fun i hi => by
    have e : i ≠ k + 1 := by omega
    exact ⟨pk_un e, pk_un e, pk_un e, pk_un e⟩) (fun i _ => ⟨rfl, rfl⟩)
/-- the first call -/
theorem mc_tp.first {f2 : Nat} {vb vf vl vp : Int32} (hb : vb.toInt = 0) (hf : vf.toInt = f2) (hl : vl.toInt = 0) : mc_tp an nl gv (upd fb 0 vp) (upd fs 0 vb) (upd ff 0 vf) (upd fl 0 vl) lb lh 0 f2 [] 0 :=
  ⟨⟨by rw [pk_us]; exact hf, by rw [pk_us]; omega, by rw [pk_us]; omega, by rw [pk_us]; omega, by rw [pk_us]; omega, by rw [pk_us]; simp; omega, by simp, fun j b hj => by simp at hj⟩, trivial⟩
/-- a return -/
theorem mc_tp.ret {k f : Nat} {bs : List (Nat × Int)} {LC : Int} (hT : mc_tp an nl gv fb fs ff fl lb lh (k + 1) f bs LC) : mc_fr an nl gv fb fs ff fl lb lh k (fb (k + 1)).toInt ((fs (k + 1)).toInt + gv f) (fl (k + 1)).toInt := hT.2
end MC
/-- what is behind a step: an end, or the frames again -/
def mc_after (an : mc_A) (nl gv : Nat → Int) (fb fs ff fl lb lh : Nat → Int32) (reason fc at_ H LC : Int32) : Prop :=
  reason.toInt ≠ 0 ∨ fc.toInt = 0 ∨ mc_fr an nl gv fb fs ff fl lb lh (fc.toInt - 1).toNat at_.toInt H.toInt LC.toInt
theorem i32_nat {x : Int32} {n : Nat} (h : x.toInt = n) : x.toNatClampNeg = n := by
  rw [Int32.toNatClampNeg, h]
  omega
theorem i32_natI {x : Int32} {n : Int} (h : x.toInt = n) : x.toNatClampNeg = n.toNat := by
  rw [Int32.toNatClampNeg, h]
section MC2
variable {an : mc_A} {nl gv : Nat → Int} {fb fs ff fl lb lh : Nat → Int32}
theorem mc_leave {k f : Nat} {bs : List (Nat × Int)} {LC : Int} (hT : mc_tp an nl gv fb fs ff fl lb lh k f bs LC) {reason fc at_ H LC2 : Int32} (hfc : fc.toInt = k) (hat : at_ = fb k) (hH : reason.toInt = 0 → H.toInt = (fs k).toInt + gv f) (hl : LC2 = fl k) :
    mc_after an nl gv fb fs ff fl lb lh reason fc at_ H LC2 := by
  cases k with
  | zero => exact Or.inr (Or.inl (by rw [hfc]; rfl))
  | succ k =>
    by_cases z : reason.toInt = 0
    · refine Or.inr (Or.inr ?_)
      have e : (fc.toInt - 1).toNat = k := by omega
      rw [e, hat, hH z, hl]
      exact hT.ret
    · exact Or.inl z
theorem mc_go {k f : Nat} {bs : List (Nat × Int)} {LC h : Int} (hT : mc_tp an nl gv fb fs ff fl lb lh k f bs LC) {reason fc at_ H LC2 : Int32} (hfc : fc.toInt = k + 1) (h0 : 0 ≤ at_.toInt) (ha : an at_.toInt.toNat = some (f, bs, h)) (hH : reason.toInt = 0 → H.toInt = (fs k).toInt + nl f + h) (hl : LC2.toInt = LC) :
    mc_after an nl gv fb fs ff fl lb lh reason fc at_ H LC2 := by
  by_cases z : reason.toInt = 0
  · refine Or.inr (Or.inr ?_)
    have e : (fc.toInt - 1).toNat = k := by omega
    rw [e, hl]
    exact mc_fr_of h0 ha (hH z) hT
  · exact Or.inl z
end MC2

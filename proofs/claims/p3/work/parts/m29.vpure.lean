/-! the reference's validator: its rows as lists, and types -/
def vg (x : Nat → Int32) : Nat → Int32 := fun j => if (x j).toInt = 0 then 64 else x j
def tst (s : Nat → Int32) : Nat → Int := fun k => (s k).toInt
theorem vg_0 {x : Nat → Int32} {j : Nat} (h : (x j).toInt = 0) : (vg x j).toInt = 64 := by unfold vg; rw [if_pos h]; decide
theorem vg_n {x : Nat → Int32} {j : Nat} (h : (x j).toInt ≠ 0) : vg x j = x j := by unfold vg; rw [if_neg h]
theorem vg_64 {x : Nat → Int32} {j : Nat} (h : (x j).toInt = 0 ∨ t27 (x j).toInt) : (vg x j).toInt = 64 ↔ (x j).toInt = 0 := by
  constructor
  · intro z
    by_cases q : (x j).toInt = 0
    · exact q
    · rw [vg_n q] at z
      unfold t27 at h
      omega
  · exact vg_0
theorem vg_127 {x : Nat → Int32} {j : Nat} (h : (vg x j).toInt = 127) : (x j).toInt = 127 := by
  by_cases q : (x j).toInt = 0
  · rw [vg_0 q] at h
    omega
  · rw [vg_n q] at h
    exact h
theorem vg_upd {x : Nat → Int32} {n : Nat} {y : Int32} : vg (upd x n y) = upd (vg x) n (if y.toInt = 0 then 64 else y) := by
  funext j
  unfold vg
  by_cases q : j = n
  · rw [q, pk_us, pk_us]
  · rw [pk_un q, pk_un q]
section VS
variable {bo bg bh bd : Nat → Int32}
theorem vs_len : ∀ k : Nat, (vs_stk bo bg bh bd k).length = k
  | 0 => rfl
  | k + 1 => by
    show (_ :: vs_stk bo bg bh bd k).length = k + 1
    rw [List.length_cons, vs_len k]
theorem vs_get : ∀ (k l : Nat), l < k → (vs_stk bo bg bh bd k)[l]? = some ((bo (k - 1 - l)).toInt, (bg (k - 1 - l)).toInt, (bh (k - 1 - l)).toInt, (bd (k - 1 - l)).toInt)
  | 0, l, h => by omega
  | k + 1, 0, _ => rfl
  | k + 1, l + 1, h => by
    show (_ :: vs_stk bo bg bh bd k)[l + 1]? = _
    rw [List.getElem?_cons_succ, vs_get k l (by omega), show k + 1 - 1 - (l + 1) = k - 1 - l by omega]
theorem vs_le {n : Nat} (hm : ∀ k : Nat, k < n → (bh k).toInt ≤ (bh (k + 1)).toInt) : ∀ (d j : Nat), j + d = n → (bh j).toInt ≤ (bh n).toInt
  | 0, j, e => by rw [show j = n by omega]; exact Int.le_refl _
  | d + 1, j, e => Int.le_trans (hm j (by omega)) (vs_le hm d (j + 1) (by omega))
theorem vs_mono {n : Nat} (hm : ∀ k : Nat, k < n → (bh k).toInt ≤ (bh (k + 1)).toInt) : ∀ x ∈ vs_stk bo bg bh bd (n + 1), x.2.2.1 ≤ (bh n).toInt := by
  intro x hx
  obtain ⟨l, hl⟩ := List.getElem?_of_mem hx
  have hlt : l < n + 1 := by
    have := (List.getElem?_eq_some_iff.mp hl).1
    rw [vs_len] at this
    exact this
  rw [vs_get _ l hlt] at hl
  have e := (Option.some.inj hl).symm
  subst e
  exact vs_le hm l (n + 1 - 1 - l) (by omega)
end VS
/-- what the rows of the validator keep to -/
def vlb (D : Int) (kis lab ous : Nat → Int32) (rtf : Int) : Prop :=
  (∀ j : Nat, (j : Int) < D → ((kis j).toInt = 3 → (lab j).toInt = 0) ∧ ((kis j).toInt ≠ 3 → lab j = ous j) ∧ ((ous j).toInt = 0 ∨ t27 (ous j).toInt)) ∧ (kis 0).toInt ≠ 3 ∧ (ous 0).toInt = rtf
section VT
variable {lt : Nat → Nat → Int} {rt tk gt : Nat → Int} {f : Nat} {op v ln : Int} {lbs : Nat → Int} {D : Int32} {h hb : Int} {kis lab ous hgt los stk stk2 : Nat → Int32}
theorem crr_of (hL : vlb D.toInt kis lab ous (rt f)) {l : Int} (h0 : 0 ≤ l) (h1 : l < D.toInt) (hc : (lab (D.toInt - 1 - l).toNat).toInt ≠ 0 → hb + 1 ≤ h ∧ ((stk (h - 1).toNat).toInt = (lab (D.toInt - 1 - l).toNat).toInt ∨ (lab (D.toInt - 1 - l).toNat).toInt ≤ 0 ∨ (stk (h - 1).toNat).toInt = -1)) :
    crr (vs_stk kis (vg ous) hgt los D.toNatClampNeg) l hb h (tst stk) := by
  have eD : (D.toNatClampNeg : Int) = D.toInt := i32_clamp (by omega)
  refine ⟨_, vs_get _ _ (by omega), fun z3 z6 => ?_⟩
  rw [show D.toNatClampNeg - 1 - l.toNat = (D.toInt - 1 - l).toNat by omega] at z3 z6 ⊢
  obtain ⟨a1, a2, a3⟩ := hL.1 (D.toInt - 1 - l).toNat (by omega)
  have e := a2 z3
  have z6' : (vg ous (D.toInt - 1 - l).toNat).toInt ≠ 64 := z6
  have n0 : (ous (D.toInt - 1 - l).toNat).toInt ≠ 0 := fun w => z6' (vg_0 w)
  rw [e] at hc
  obtain ⟨k1, k2⟩ := hc n0
  refine ⟨k1, fun z7 => ?_⟩
  have := vg_127 z7
  show (stk (h - 1).toNat).toInt ≠ 126
  omega
theorem vty_of (hD : 1 ≤ D.toInt) (hm : ∀ k : Nat, (k : Int) + 1 < D.toInt → (hgt k).toInt ≤ (hgt (k + 1)).toInt) (hL : vlb D.toInt kis lab ous (rt f)) (hs : ∀ k : Nat, (k : Int) < (hgt (D.toInt - 1).toNat).toInt → stk2 k = stk k)
    (h11 : op = 11 → 2 ≤ D.toInt → (ous (D.toInt - 1).toNat).toInt ≠ 0 → stk2 (hgt (D.toInt - 1).toNat).toInt.toNat = ous (D.toInt - 1).toNat)
    (hd : (los (D.toInt - 1).toNat).toInt = 0 → vtd lt rt tk gt f op v ln lbs (vs_stk kis (vg ous) hgt los D.toNatClampNeg) (vg ous (D.toInt - 1).toNat).toInt (hgt (D.toInt - 1).toNat).toInt h (D.toInt - 1).toNat (tst stk) (tst stk2)) :
    vty lt rt tk gt f op v ln lbs (vs_stk kis (vg ous) hgt los D.toNatClampNeg) h (tst stk) (tst stk2) := by
  have eD : (D.toNatClampNeg : Int) = D.toInt := i32_clamp (by omega)
  obtain ⟨n, en⟩ : ∃ n, n = (D.toInt - 1).toNat := ⟨_, rfl⟩
  have eN : D.toNatClampNeg = n + 1 := by omega
  rw [← en] at hs h11 hd
  rw [eN] at hd ⊢
  refine ⟨(kis n).toInt, (vg ous n).toInt, (hgt n).toInt, (los n).toInt, vs_stk kis (vg ous) hgt los n, rfl, fun k hk => ?_, vs_mono (fun k hk => hm k (by omega)), ?_, fun z r g6 => ?_, fun z => ?_⟩
  · show (stk2 k).toInt = (stk k).toInt
    rw [hs k hk]
  · rw [vs_len]
    refine ⟨_, vs_get _ _ (Nat.lt_succ_self _), ?_⟩
    rw [show n + 1 - 1 - n = 0 by omega]
    obtain ⟨-, a2, a3⟩ := hL.2.1 |> fun k => (⟨k, k, hL.2.2⟩ : (kis 0).toInt ≠ 3 ∧ (kis 0).toInt ≠ 3 ∧ (ous 0).toInt = rt f)
    have b := (hL.1 0 (by omega)).2.2
    refine ⟨a2, fun r0 w => r0 ?_, fun r7 => ?_⟩
    · rw [← a3]
      exact (vg_64 b).mp w
    · rw [← a3] at r7
      show (vg ous 0).toInt = 127
      rw [vg_n (by omega)]
      exact r7
  · have n1 : 2 ≤ D.toInt := by
      cases n with
      | zero => exact absurd rfl r
      | succ n => omega
    have n0 : (ous n).toInt ≠ 0 := fun w => g6 (vg_0 w)
    show (stk2 (hgt n).toInt.toNat).toInt = (vg ous n).toInt
    rw [h11 z n1 n0, vg_n n0]
  · rw [vs_len]
    exact hd z
theorem vo_opl {nl gv : Nat → Int} {fc gc : Int} {D h h2 : Int32} {bo bg bh bd : Nat → Int32} {o : Int} (hD : 1 ≤ D.toInt) (hm : ∀ k : Nat, (k : Int) + 1 < D.toInt → (bh k).toInt ≤ (bh (k + 1)).toInt) (hT : (bh (D.toInt - 1).toNat).toInt ≤ h.toInt) (ho : opl o) (r1 : (bh (D.toInt - 1).toNat).toInt + pm o ≤ h2.toInt) (r2 : h2.toInt ≤ h.toInt + 1)
    (c : (bd (D.toInt - 1).toNat).toInt = 0 → (bh (D.toInt - 1).toNat).toInt + pn o ≤ h.toInt ∧ h2.toInt = h.toInt - pn o + pm o) : vo nl gv tk fc gc f o v D h D h2 bo bg bh bd bo bg bh bd := by
  have hp : 0 ≤ pm o := by unfold pm; split <;> omega
  unfold opl at ho
  refine vo_plain hD hm hT (by omega) r2 (by omega) (by omega) (fun z => by omega) (fun z => by omega) (fun z => by omega) (fun z => by omega) (fun z => ?_)
  obtain ⟨c1, c2⟩ := c z
  refine ⟨fun w => by omega, fun w => by omega, fun w => ?_, fun w => ?_, fun w => ?_, fun w => ?_⟩
  · have e1 := pn0 (o := o) (by omega)
    have e2 := pm1 (o := o) (by omega)
    omega
  · have e1 := pn2 w
    have e2 := pm0 w
    omega
  · have e2 := pm1 (o := o) (by omega)
    have e1 : pn o = 1 := by unfold pn; rw [if_neg (by omega), if_pos (by omega)]
    omega
  · have e2 := pm1 (o := o) (by omega)
    have e1 : pn o = 2 := by unfold pn; rw [if_neg (by omega), if_neg (by omega)]
    omega
end VT
/-- what the tables of a module tell the validator -/
def vctx (fc gc : Int) (mpc mre mlc mgt : Nat → Int32) (mto : Nat → Int64) (M1 M2 : Nat → Nat → Int32) (lt : Nat → Nat → Int) (rt nl gv tk gt : Nat → Int) : Prop :=
  (∀ g : Nat, (g : Int) < fc → 0 ≤ (mto g).toInt ∧ (mto g).toInt < 20 ∧ tk g = (mpc (mto g).toInt.toNat).toInt ∧ rt g = (mre (mto g).toInt.toNat).toInt ∧ (rt g = 0 ∨ t27 (rt g)) ∧ gv g = (if rt g = 0 then 0 else 1) ∧ nl g = tk g + (mlc g).toInt ∧
    (∀ k : Nat, (k : Int) < tk g → lt g k = (M1 (mto g).toInt.toNat k).toInt ∧ t27 (lt g k)) ∧ (∀ k : Nat, tk g ≤ k → (k : Int) < nl g → lt g k = (M2 g (k - tk g).toNat).toInt ∧ t27 (lt g k))) ∧
  ∀ g : Nat, (g : Int) < gc → gt g = (mgt g).toInt ∧ t27 (gt g)
theorem upd_me {x : Nat → Int32} {n : Nat} {y : Int32} (h : y = x n) : upd x n y = x := by
  funext j
  by_cases q : j = n
  · rw [q, pk_us, h]
  · rw [pk_un q]
theorem vlb_open {D : Int32} {D2 : Int} {kis lab ous : Nat → Int32} {rtf : Int} {o l w : Int32} (h : vlb D.toInt kis lab ous rtf) (hD : 1 ≤ D.toInt) (e : D2 = D.toInt + 1) (h3 : o.toInt = 3 → l.toInt = 0) (h4 : o.toInt ≠ 3 → l = w) (ht : w.toInt = 0 ∨ t27 w.toInt) : vlb D2 (upd kis D.toNatClampNeg o) (upd lab D.toNatClampNeg l) (upd ous D.toNatClampNeg w) rtf := by
  have eD : (D.toNatClampNeg : Int) = D.toInt := i32_clamp (by omega)
  refine ⟨fun j hj => ?_, ?_, ?_⟩
  · by_cases q : j = D.toNatClampNeg
    · rw [q, pk_us, pk_us, pk_us]
      exact ⟨h3, h4, ht⟩
    · rw [pk_un q, pk_un q, pk_un q]
      exact h.1 j (by omega)
  · rw [pk_un (by omega)]
    exact h.2.1
  · rw [pk_un (by omega)]
    exact h.2.2
theorem vlb_else {D : Int} {kis lab ous : Nat → Int32} {rtf : Int} {o : Int32} {n : Nat} (h : vlb D kis lab ous rtf) (hn : (n : Int) < D) (ho : o.toInt ≠ 3) (hk : (kis n).toInt ≠ 3) : vlb D (upd kis n o) lab ous rtf := by
  refine ⟨fun j hj => ?_, ?_, h.2.2⟩
  · by_cases q : j = n
    · rw [q, pk_us]
      have w := h.1 n hn
      exact ⟨fun z => absurd z ho, fun _ => w.2.1 hk, w.2.2⟩
    · rw [pk_un q]
      exact h.1 j hj
  · by_cases q : (0 : Nat) = n
    · rw [← q, pk_us]
      exact ho
    · rw [pk_un q]
      exact h.2.1
theorem vlb_t {D : Int} {kis lab ous : Nat → Int32} {rtf : Int} (h : vlb D kis lab ous rtf) {j : Nat} (hj : (j : Int) < D) : (lab j).toInt = 0 ∨ t27 (lab j).toInt := by
  obtain ⟨a1, a2, a3⟩ := h.1 j hj
  by_cases q : (kis j).toInt = 3
  · exact Or.inl (a1 q)
  · rw [a2 q]
    exact a3
theorem nxo_5 {b : Nat → Int32} {o : Int} {q : Nat} (h : o = 5) : nxo b o q = q := by unfold nxo; rw [if_neg (by omega), if_neg (by omega), if_neg (by omega), if_neg (by omega), if_neg (by omega)]

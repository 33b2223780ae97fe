/-! the reference reads code: its bytes, and the numbered instructions that they are -/
def lkD (b : Nat → Int32) (pos : Nat → Nat) (gop gpt glb : Nat → Int32) (gva : Nat → Int64) (j : Nat) : Prop :=
  (b (pos j) &&& 255).toInt = (gop j).toInt ∧
  (opI (gop j).toInt → (gva j).toInt = (uF b 5 (pos j + 1) 0 0).toInt) ∧
  ((gop j).toInt = 2 ∨ (gop j).toInt = 3 ∨ (gop j).toInt = 4 → (gva j).toInt = (b (pos j + 1) &&& 255).toInt) ∧
  ((gop j).toInt = 14 → (gpt j).toInt = (uF b 5 (pos j + 1) 0 0).toInt ∧ ∀ k : Nat, (k : Int) ≤ (gpt j).toInt → (glb ((gva j).toInt.toNat + k)).toInt = (uF b 5 (tbl b (nF b 5 (pos j + 1)) k) 0 0).toInt)
def lkB (en el : Nat → Int32) (pos : Nat → Nat) (gpt gel : Nat → Int32) (op : Nat → Prop) (nn j : Nat) : Prop :=
  ((gel j).toInt < 0 → (el (pos j)).toInt < 0) ∧ (0 ≤ (gel j).toInt → (el (pos j)).toInt = (pos (gel j).toNatClampNeg : Int)) ∧ (¬ op j → (en (pos j)).toInt = (pos (gpt j).toNatClampNeg : Int) ∧ (gpt j).toNatClampNeg < nn)
def isop (go : Nat → Int32) (oc : Int32) (j : Nat) : Prop := ∃ k : Nat, (k : Int) < oc.toInt ∧ (go k).toNatClampNeg = j
def blk3 (o : Int) : Prop := o = 2 ∨ o = 3 ∨ o = 4
def ckI (b en el : Nat → Int32) (a : Nat) (n oc lc : Int32) (gop gpt gel glb go : Nat → Int32) (gva : Nat → Int64) (pos : Nat → Nat) (bk : Nat → Int32) (cu : Int) : Prop :=
  rc_inv a 1 n oc lc gop gpt gel go gva ∧ ((a : Int) ≤ n.toInt ∧ n.toInt ≤ cu ∧ 0 ≤ lc.toInt ∧ lc.toInt ≤ cu ∧ (pos n.toNatClampNeg : Int) = cu) ∧
  (∀ j, a ≤ j → j < n.toNatClampNeg → pos j < pos (j + 1) ∧ lkD b pos gop gpt glb gva j ∧ pos (j + 1) = nxo b (gop j).toInt (pos j + 1) ∧ (blk3 (gop j).toInt → lkB en el pos gpt gel (isop go oc) n.toNatClampNeg j)) ∧
  (∀ k : Nat, (k : Int) < oc.toInt → (bk k).toInt = (pos (go k).toNatClampNeg : Int) ∧ a ≤ (go k).toNatClampNeg ∧ (go k).toNatClampNeg < n.toNatClampNeg)
def ckS (a : Nat) (lc0 : Int) (start : Nat) (gop0 gpt0 gel0 glb0 en0 el0 gop gpt gel glb en el : Nat → Int32) (gva0 gva : Nat → Int64) (pos0 pos : Nat → Nat) : Prop :=
  rc_same a gop0 gpt0 gel0 gop gpt gel gva0 gva ∧ (∀ i : Nat, (i : Int) < lc0 → glb i = glb0 i) ∧ (∀ j, j < a → pos j = pos0 j) ∧ pos a = start ∧ ∀ p, p < start → en p = en0 p ∧ el p = el0 p
section CK
variable {b en el gop gpt gel glb go bk : Nat → Int32} {gva : Nat → Int64} {pos : Nat → Nat} {a : Nat} {n oc lc : Int32} {cu : Int}
theorem ck_mono (h : ∀ j, a ≤ j → j < n.toNatClampNeg → pos j < pos (j + 1)) {i : Nat} (hi : a ≤ i) : ∀ k : Nat, i + k ≤ n.toNatClampNeg → (k = 0 ∨ pos i < pos (i + k))
  | 0, _ => Or.inl rfl
  | k + 1, hk => by
    right
    have h1 := h (i + k) (by omega) (by omega)
    rcases ck_mono h hi k (by omega) with rfl | h2
    · exact h1
    · exact Nat.lt_trans h2 h1
theorem ck_lt (h : ∀ j, a ≤ j → j < n.toNatClampNeg → pos j < pos (j + 1)) {i j : Nat} (hi : a ≤ i) (hij : i < j) (hj : j ≤ n.toNatClampNeg) : pos i < pos j := by
  rcases ck_mono h hi (j - i) (by omega) with q | q
  · omega
  · rw [show i + (j - i) = j by omega] at q
    exact q
theorem lkD_eq {pos2 : Nat → Nat} {gop2 gpt2 glb2 : Nat → Int32} {gva2 : Nat → Int64} {j : Nat} (h : lkD b pos gop gpt glb gva j) (e1 : pos2 j = pos j) (e2 : gop2 j = gop j) (e3 : (gop j).toInt = 14 → gpt2 j = gpt j) (e4 : gva2 j = gva j) (e5 : (gop j).toInt = 14 → ∀ k : Nat, (k : Int) ≤ (gpt j).toInt → glb2 ((gva j).toInt.toNat + k) = glb ((gva j).toInt.toNat + k)) : lkD b pos2 gop2 gpt2 glb2 gva2 j := by
  obtain ⟨h1, h2, h3, h4⟩ := h
  unfold lkD
  rw [e1, e2, e4]
  refine ⟨h1, h2, h3, fun z => ?_⟩
  obtain ⟨h5, h6⟩ := h4 z
  rw [e3 z]
  exact ⟨h5, fun k hk => by rw [e5 z k hk]; exact h6 k hk⟩
/-- the table's labels lie below lc -/
theorem ck_lab (h : rc_inv a 1 n oc lc gop gpt gel go gva) {j : Nat} (h1 : a ≤ j) (h2 : j < n.toNatClampNeg) (h3 : (gop j).toInt = 14) : 0 ≤ (gva j).toInt ∧ 0 ≤ (gpt j).toInt ∧ (gva j).toInt + (gpt j).toInt < lc.toInt := by
  obtain ⟨sb, k1, -⟩ := h.2.1 (by decide)
  exact (k1.2.2.2 j h1 h2).1.2.2.1 h3
/-- an instruction that opens and closes nothing -/
theorem ck_plain (h : ckI b en el a n oc lc gop gpt gel glb go gva pos bk cu) {o lc2 n2 : Int32} {gpt2 gel2 glb2 : Nat → Int32} {gva2 : Nat → Int64} {c2 : Nat} (hn2 : n2.toInt = n.toInt + 1) (hcu : cu < (c2 : Int)) (hc2 : n.toInt < 5000) (hoc : 0 ≤ oc.toInt ∧ oc.toInt ≤ 100)
    (st : rstep n o oc lc 1 oc lc2 gop gpt gel glb go (upd gop n.toNatClampNeg o) gpt2 gel2 glb2 go gva gva2) (ho : ¬ blk3 o.toInt)
    (hp : ∀ j, j ≠ n.toNatClampNeg → gpt2 j = gpt j ∧ gel2 j = gel j ∧ gva2 j = gva j) (hlb : ∀ i : Nat, (i : Int) < lc.toInt → glb2 i = glb i) (hlc : 0 ≤ lc2.toInt ∧ lc2.toInt ≤ (c2 : Int))
    (hD : lkD b (va_up pos (n.toNatClampNeg + 1) c2) (upd gop n.toNatClampNeg o) gpt2 glb2 gva2 n.toNatClampNeg) (hx : c2 = nxo b o.toInt (pos n.toNatClampNeg + 1)) :
    ckI b en el a n2 oc lc2 (upd gop n.toNatClampNeg o) gpt2 gel2 glb2 go gva2 (va_up pos (n.toNatClampNeg + 1) c2) bk (c2 : Int) := by
  obtain ⟨h1, ⟨a1, a2, a3, a4, a5⟩, h3, h4⟩ := h
  have zn := i32_clamp (x := n) (by omega)
  have e2 : n2.toNatClampNeg = n.toNatClampNeg + 1 := by rw [i32_natI hn2]; omega
  have R := (rc_next (gop0 := gop) (gpt0 := gpt) (gel0 := gel) (gva0 := gva) h1 (fun j _ => ⟨rfl, rfl, rfl, rfl⟩) (by decide) ⟨by omega, hc2⟩ hn2 hoc a3 (Or.inr (by decide)) st).1
  refine ⟨R, ⟨by omega, by omega, hlc.1, hlc.2, by rw [e2, va_up_self]⟩, fun j j1 j2 => ?_, fun k hk => ?_⟩
  · rw [e2] at j2
    by_cases ej : j = n.toNatClampNeg
    · subst ej
      refine ⟨by rw [va_up_self, va_up_ne _ _ (by omega)]; omega, hD, by rw [va_up_self, va_up_ne _ _ (by omega), pk_us]; exact hx, fun z => absurd z (by rw [pk_us]; exact ho)⟩
    · obtain ⟨q1, q2, q3, q4⟩ := h3 j j1 (by omega)
      have p1 : va_up pos (n.toNatClampNeg + 1) c2 j = pos j := va_up_ne _ _ (by omega)
      have p2 : va_up pos (n.toNatClampNeg + 1) c2 (j + 1) = pos (j + 1) := va_up_ne _ _ (by omega)
      refine ⟨by rw [p1, p2]; exact q1, lkD_eq q2 p1 (pk_un ej) (fun _ => (hp j ej).1) (hp j ej).2.2 (fun z k hk => ?_), by rw [p1, p2, pk_un ej]; exact q3, fun z => ?_⟩
      · have := ck_lab h1 j1 (by omega) z
        exact hlb _ (by omega)
      · rw [pk_un ej] at z
        have q5 := q4 z
        unfold lkB at q5 ⊢
        obtain ⟨sb, k1, -⟩ := h1.2.1 (by decide)
        have k2 := k1.2.2.2 j j1 (by omega)
        rw [(hp j ej).1, (hp j ej).2.1, p1]
        refine ⟨q5.1, fun y => ?_, fun y => ?_⟩
        · rw [q5.2.1 y, va_up_ne _ _ (fun q => ?_)]
          have := rs_els k1 j1 (by omega) y
          omega
        · obtain ⟨y1, y2⟩ := q5.2.2 y
          exact ⟨by rw [y1, va_up_ne _ _ (by omega)], by omega⟩
  · obtain ⟨q1, q2, q3⟩ := h4 k hk
    exact ⟨by rw [va_up_ne _ _ (by omega)]; exact q1, q2, by omega⟩
/-- a block is opened -/
theorem ck_open (h : ckI b en el a n oc lc gop gpt gel glb go gva pos bk cu) {o n2 oc2 x : Int32} {v : Int64} {c2 : Nat} (hn2 : n2.toInt = n.toInt + 1) (hcu : cu < (c2 : Int)) (hc2 : n.toInt < 5000) (hoc : 0 ≤ oc.toInt ∧ oc.toInt < 100) (ho : blk3 o.toInt) (hoc2 : oc2.toInt = oc.toInt + 1)
    (hv : v.toInt = 64 ∨ v.toInt = 127 ∨ v.toInt = 126) (hxx : x.toInt = cu) (hb1 : (b (pos n.toNatClampNeg) &&& 255).toInt = o.toInt) (hb2 : v.toInt = (b (pos n.toNatClampNeg + 1) &&& 255).toInt) (hx : c2 = nxo b o.toInt (pos n.toNatClampNeg + 1)) :
    ckI b en (upd el (pos n.toNatClampNeg) (-1)) a n2 oc2 lc (upd gop n.toNatClampNeg o) (upd gpt n.toNatClampNeg 0) (upd gel n.toNatClampNeg (-1)) glb (upd go oc.toNatClampNeg n) (vp_updL (vp_updL gva n.toNatClampNeg 0) n.toNatClampNeg v) (va_up pos (n.toNatClampNeg + 1) c2) (upd bk oc.toNatClampNeg x) (c2 : Int) := by
  obtain ⟨h1, ⟨a1, a2, a3, a4, a5⟩, h3, h4⟩ := h
  have zn := i32_clamp (x := n) (by omega)
  have zo := i32_clamp (x := oc) (by omega)
  have km : (-1 : Int32).toInt = -1 := by decide
  have e2 : n2.toNatClampNeg = n.toNatClampNeg + 1 := by rw [i32_natI hn2]; omega
  have st : rstep n o oc lc 1 oc2 lc gop gpt gel glb go (upd gop n.toNatClampNeg o) (upd gpt n.toNatClampNeg 0) (upd gel n.toNatClampNeg (-1)) glb (upd go oc.toNatClampNeg n) gva (vp_updL (vp_updL gva n.toNatClampNeg 0) n.toNatClampNeg v) := ⟨rfl, Or.inl ⟨ho, by decide, by omega, hoc2, rfl, rfl, rfl, rfl, rfl, v, hv, rfl⟩⟩
  have R := (rc_next (gop0 := gop) (gpt0 := gpt) (gel0 := gel) (gva0 := gva) h1 (fun j _ => ⟨rfl, rfl, rfl, rfl⟩) (by decide) ⟨by omega, hc2⟩ hn2 ⟨by omega, by omega⟩ a3 (Or.inr (by decide)) st).1
  have mono : ∀ j, a ≤ j → j < n.toNatClampNeg → pos j < pos (j + 1) := fun j q1 q2 => (h3 j q1 q2).1
  have go2 : ∀ k : Nat, (k : Int) < oc.toInt → upd go oc.toNatClampNeg n k = go k := fun k hk => pk_un (by omega)
  refine ⟨R, ⟨by omega, by omega, a3, by omega, by rw [e2, va_up_self]⟩, fun j j1 j2 => ?_, fun k hk => ?_⟩
  · rw [e2] at j2
    by_cases ej : j = n.toNatClampNeg
    · subst ej
      have p1 : va_up pos (n.toNatClampNeg + 1) c2 n.toNatClampNeg = pos n.toNatClampNeg := va_up_ne _ _ (by omega)
      refine ⟨by rw [va_up_self, p1]; omega, ⟨by rw [p1, pk_us]; exact hb1, fun z => ?_, fun _ => ?_, fun z => ?_⟩, by rw [va_up_self, p1, pk_us]; exact hx, fun _ => ⟨fun _ => ?_, fun z => ?_, fun z => absurd ⟨oc.toNatClampNeg, by omega, by rw [pk_us]⟩ z⟩⟩
      · rw [pk_us] at z
        unfold opI at z
        unfold blk3 at ho
        omega
      · rw [p1, show vp_updL (vp_updL gva n.toNatClampNeg 0) n.toNatClampNeg v n.toNatClampNeg = v from if_pos rfl]
        exact hb2
      · rw [pk_us] at z
        unfold blk3 at ho
        omega
      · rw [p1, pk_us, km]
        omega
      · rw [pk_us, km] at z
        omega
    · obtain ⟨q1, q2, q3, q4⟩ := h3 j j1 (by omega)
      have p1 : va_up pos (n.toNatClampNeg + 1) c2 j = pos j := va_up_ne _ _ (by omega)
      have p2 : va_up pos (n.toNatClampNeg + 1) c2 (j + 1) = pos (j + 1) := va_up_ne _ _ (by omega)
      refine ⟨by rw [p1, p2]; exact q1, lkD_eq q2 p1 (pk_un ej) (fun _ => pk_un ej) (by rw [uL_un ej, uL_un ej]) (fun _ _ _ => rfl), by rw [p1, p2, pk_un ej]; exact q3, fun z => ?_⟩
      rw [pk_un ej] at z
      have q5 := q4 z
      have lt := ck_lt mono j1 (show j < n.toNatClampNeg by omega) (Nat.le_refl _)
      obtain ⟨sb, k1, -⟩ := h1.2.1 (by decide)
      unfold lkB at q5 ⊢
      rw [pk_un ej, pk_un ej, p1, pk_un (show pos j ≠ pos n.toNatClampNeg by omega)]
      refine ⟨q5.1, fun y => ?_, fun y => ?_⟩
      · rw [q5.2.1 y, va_up_ne _ _ (fun q => ?_)]
        have := rs_els k1 j1 (by omega) y
        omega
      · obtain ⟨y1, y2⟩ := q5.2.2 (fun ⟨k, k1, k2⟩ => y ⟨k, by omega, by rw [go2 k k1]; exact k2⟩)
        exact ⟨by rw [y1, va_up_ne _ _ (by omega)], by omega⟩
  · by_cases ek : k = oc.toNatClampNeg
    · subst ek
      rw [pk_us, pk_us, va_up_ne _ _ (by omega)]
      omega
    · obtain ⟨q1, q2, q3⟩ := h4 k (by omega)
      rw [pk_un ek, pk_un ek, va_up_ne _ _ (by omega)]
      exact ⟨q1, q2, by omega⟩
/-- an else -/
theorem ck_else (h : ckI b en el a n oc lc gop gpt gel glb go gva pos bk cu) {o n2 x : Int32} {c2 : Nat} (hn2 : n2.toInt = n.toInt + 1) (hcu : cu < (c2 : Int)) (hc2 : n.toInt < 5000) (hoc : 0 < oc.toInt ∧ oc.toInt ≤ 100) (ho : o.toInt = 5) (hxx : x.toInt = cu)
    (hb1 : (b (pos n.toNatClampNeg) &&& 255).toInt = o.toInt) (h4b : (b (pos (go (oc.toNatClampNeg - 1)).toNatClampNeg) &&& 255).toInt = 4) (hel : (el (pos (go (oc.toNatClampNeg - 1)).toNatClampNeg)).toInt < 0) (hx : c2 = nxo b o.toInt (pos n.toNatClampNeg + 1)) :
    ckI b en (upd el (pos (go (oc.toNatClampNeg - 1)).toNatClampNeg) x) a n2 oc lc (upd gop n.toNatClampNeg o) (upd gpt n.toNatClampNeg 0) (upd (upd gel n.toNatClampNeg (-1)) (go (oc.toNatClampNeg - 1)).toNatClampNeg n) glb go (vp_updL gva n.toNatClampNeg 0) (va_up pos (n.toNatClampNeg + 1) c2) bk (c2 : Int) := by
  obtain ⟨h1, ⟨a1, a2, a3, a4, a5⟩, h3, h4⟩ := h
  have zn := i32_clamp (x := n) (by omega)
  have zo := i32_clamp (x := oc) (by omega)
  have km : (-1 : Int32).toInt = -1 := by decide
  have e2 : n2.toNatClampNeg = n.toNatClampNeg + 1 := by rw [i32_natI hn2]; omega
  generalize hB : (go (oc.toNatClampNeg - 1)).toNatClampNeg = B at h4b hel ⊢
  obtain ⟨w1, w2, w3⟩ := h4 (oc.toNatClampNeg - 1) (by omega)
  rw [hB] at w1 w2 w3
  obtain ⟨c1, c3, c4, c5⟩ := h3 B w2 w3
  have g4 : (gop B).toInt = 4 := by rw [← c3.1]; exact h4b
  have gel0 : (gel B).toInt < 0 := by
    have q := c5 (Or.inr (Or.inr g4))
    by_cases w : (gel B).toInt < 0
    · exact w
    · have := q.2.1 (by omega); omega
  have st : rstep n o oc lc 1 oc lc gop gpt gel glb go (upd gop n.toNatClampNeg o) (upd gpt n.toNatClampNeg 0) (upd (upd gel n.toNatClampNeg (-1)) B n) glb go gva (vp_updL gva n.toNatClampNeg 0) := ⟨rfl, Or.inr (Or.inl ⟨ho, by decide, rfl, rfl, rfl, rfl, rfl, rfl, by omega, by rw [hB, pk_un (by omega)]; exact g4, by rw [hB, pk_un (by omega)]; exact gel0, by rw [hB]⟩)⟩
  have R := (rc_next (gop0 := gop) (gpt0 := gpt) (gel0 := gel) (gva0 := gva) h1 (fun j _ => ⟨rfl, rfl, rfl, rfl⟩) (by decide) ⟨by omega, hc2⟩ hn2 ⟨by omega, by omega⟩ a3 (Or.inr (by decide)) st).1
  have mono : ∀ j, a ≤ j → j < n.toNatClampNeg → pos j < pos (j + 1) := fun j q1 q2 => (h3 j q1 q2).1
  refine ⟨R, ⟨by omega, by omega, a3, by omega, by rw [e2, va_up_self]⟩, fun j j1 j2 => ?_, fun k hk => ?_⟩
  · rw [e2] at j2
    by_cases ej : j = n.toNatClampNeg
    · subst ej
      have p1 : va_up pos (n.toNatClampNeg + 1) c2 n.toNatClampNeg = pos n.toNatClampNeg := va_up_ne _ _ (by omega)
      refine ⟨by rw [va_up_self, p1]; omega, ⟨by rw [p1, pk_us]; exact hb1, fun z => ?_, fun z => ?_, fun z => ?_⟩, by rw [va_up_self, p1, pk_us]; exact hx, fun z => ?_⟩
      · rw [pk_us] at z; unfold opI at z; omega
      · rw [pk_us] at z; omega
      · rw [pk_us] at z; omega
      · rw [pk_us] at z; unfold blk3 at z; omega
    · obtain ⟨q1, q2, q3, q4⟩ := h3 j j1 (by omega)
      have p1 : va_up pos (n.toNatClampNeg + 1) c2 j = pos j := va_up_ne _ _ (by omega)
      have p2 : va_up pos (n.toNatClampNeg + 1) c2 (j + 1) = pos (j + 1) := va_up_ne _ _ (by omega)
      refine ⟨by rw [p1, p2]; exact q1, lkD_eq q2 p1 (pk_un ej) (fun _ => pk_un ej) (by rw [uL_un ej]) (fun _ _ _ => rfl), by rw [p1, p2, pk_un ej]; exact q3, fun z => ?_⟩
      rw [pk_un ej] at z
      have q5 := q4 z
      obtain ⟨sb, k1, -⟩ := h1.2.1 (by decide)
      unfold lkB at q5 ⊢
      rw [pk_un ej, p1]
      refine ⟨fun y => ?_, fun y => ?_, fun y => ?_⟩
      · by_cases eB : j = B
        · rw [eB, pk_us] at y; omega
        · rw [pk_un eB, pk_un ej] at y
          have : pos j ≠ pos B := by
            rcases Nat.lt_or_ge j B with w | w
            · have := ck_lt mono j1 w (by omega); omega
            · have := ck_lt mono w2 (show B < j by omega) (by omega); omega
          rw [pk_un this]
          exact q5.1 y
      · by_cases eB : j = B
        · rw [eB, pk_us, pk_us, va_up_ne _ _ (by omega), hxx]; omega
        · rw [pk_un eB, pk_un ej] at y ⊢
          have : pos j ≠ pos B := by
            rcases Nat.lt_or_ge j B with w | w
            · have := ck_lt mono j1 w (by omega); omega
            · have := ck_lt mono w2 (show B < j by omega) (by omega); omega
          have ee := rs_els k1 j1 (by omega) y
          rw [pk_un this, q5.2.1 y, va_up_ne _ _ (by omega)]
      · obtain ⟨y1, y2⟩ := q5.2.2 y
        exact ⟨by rw [y1, va_up_ne _ _ (by omega)], by omega⟩
  · obtain ⟨q1, q2, q3⟩ := h4 k hk
    exact ⟨by rw [va_up_ne _ _ (by omega)]; exact q1, q2, by omega⟩
/-- an end that closes a block -/
theorem ck_end (h : ckI b en el a n oc lc gop gpt gel glb go gva pos bk cu) {o n2 oc2 x : Int32} {c2 : Nat} (hn2 : n2.toInt = n.toInt + 1) (hcu : cu < (c2 : Int)) (hc2 : n.toInt < 5000) (hoc : 0 < oc.toInt ∧ oc.toInt ≤ 100) (ho : o.toInt = 11) (hoc2 : oc2.toInt = oc.toInt - 1) (hxx : x.toInt = cu)
    (hb1 : (b (pos n.toNatClampNeg) &&& 255).toInt = o.toInt) (hx : c2 = nxo b o.toInt (pos n.toNatClampNeg + 1)) :
    ∃ gpt2 : Nat → Int32, rstep n o oc lc 1 oc2 lc gop gpt gel glb go (upd gop n.toNatClampNeg o) gpt2 (upd gel n.toNatClampNeg (-1)) glb go gva (vp_updL gva n.toNatClampNeg 0) ∧
    ckI b (upd en (pos (go (oc.toNatClampNeg - 1)).toNatClampNeg) x) el a n2 oc2 lc (upd gop n.toNatClampNeg o) gpt2 (upd gel n.toNatClampNeg (-1)) glb go (vp_updL gva n.toNatClampNeg 0) (va_up pos (n.toNatClampNeg + 1) c2) bk (c2 : Int) := by
  obtain ⟨h1, ⟨a1, a2, a3, a4, a5⟩, h3, h4⟩ := h
  have zn := i32_clamp (x := n) (by omega)
  have zo := i32_clamp (x := oc) (by omega)
  have km : (-1 : Int32).toInt = -1 := by decide
  have e2 : n2.toNatClampNeg = n.toNatClampNeg + 1 := by rw [i32_natI hn2]; omega
  generalize hB : (go (oc.toNatClampNeg - 1)).toNatClampNeg = B
  obtain ⟨w1, w2, w3⟩ := h4 (oc.toNatClampNeg - 1) (by omega)
  rw [hB] at w1 w2 w3
  obtain ⟨gpt2, hg⟩ : ∃ g : Nat → Int32, g = if 0 ≤ (upd gel n.toNatClampNeg (-1) B).toInt then upd (upd (upd gpt n.toNatClampNeg 0) B n) (upd gel n.toNatClampNeg (-1) B).toNatClampNeg n else upd (upd gpt n.toNatClampNeg 0) B n := ⟨_, rfl⟩
  have st : rstep n o oc lc 1 oc2 lc gop gpt gel glb go (upd gop n.toNatClampNeg o) gpt2 (upd gel n.toNatClampNeg (-1)) glb go gva (vp_updL gva n.toNatClampNeg 0) :=
    ⟨rfl, Or.inr (Or.inr (Or.inl ⟨ho, rfl, rfl, rfl, rfl, rfl, fun z => absurd z (by decide), fun _ => ⟨by omega, hoc2, by rw [hB]; exact hg⟩⟩))⟩
  have R := (rc_next (gop0 := gop) (gpt0 := gpt) (gel0 := gel) (gva0 := gva) h1 (fun j _ => ⟨rfl, rfl, rfl, rfl⟩) (by decide) ⟨by omega, hc2⟩ hn2 ⟨by omega, by omega⟩ a3 (Or.inr (by decide)) st).1
  have mono : ∀ j, a ≤ j → j < n.toNatClampNeg → pos j < pos (j + 1) := fun j q1 q2 => (h3 j q1 q2).1
  obtain ⟨sb, k1, ksb⟩ := h1.2.1 (by decide)
  have gpB : gpt2 B = n := by
    rw [hg]
    split
    · rename_i w
      rw [pk_un (show B ≠ n.toNatClampNeg by omega)] at w ⊢
      have := rs_els k1 w2 w3 w
      rw [pk_un (by omega), pk_us]
    · rw [pk_us]
  have gpO : ∀ j, a ≤ j → j < n.toNatClampNeg → j ≠ B → (gop j).toInt ≠ 5 → gpt2 j = gpt j := by
    intro j j1 j2 j3 j5
    rw [hg]
    split
    · rename_i w
      rw [pk_un (show B ≠ n.toNatClampNeg by omega)] at w ⊢
      have q := rs_els k1 w2 w3 w
      rw [pk_un (fun z => j5 (by rw [z]; exact q.2.2.2.1)), pk_un j3, pk_un (by omega)]
    · rw [pk_un j3, pk_un (by omega)]
  refine ⟨gpt2, st, R, ⟨by omega, by omega, a3, by omega, by rw [e2, va_up_self]⟩, fun j j1 j2 => ?_, fun k hk => ?_⟩
  · rw [e2] at j2
    by_cases ej : j = n.toNatClampNeg
    · subst ej
      have p1 : va_up pos (n.toNatClampNeg + 1) c2 n.toNatClampNeg = pos n.toNatClampNeg := va_up_ne _ _ (by omega)
      refine ⟨by rw [va_up_self, p1]; omega, ⟨by rw [p1, pk_us]; exact hb1, fun z => ?_, fun z => ?_, fun z => ?_⟩, by rw [va_up_self, p1, pk_us]; exact hx, fun z => ?_⟩
      · rw [pk_us] at z; unfold opI at z; omega
      · rw [pk_us] at z; omega
      · rw [pk_us] at z; omega
      · rw [pk_us] at z; unfold blk3 at z; omega
    · obtain ⟨q1, q2, q3, q4⟩ := h3 j j1 (by omega)
      have p1 : va_up pos (n.toNatClampNeg + 1) c2 j = pos j := va_up_ne _ _ (by omega)
      have p2 : va_up pos (n.toNatClampNeg + 1) c2 (j + 1) = pos (j + 1) := va_up_ne _ _ (by omega)
      have B3 : blk3 (gop B).toInt := by
        have q := (k1.2.2.1 n.toNatClampNeg (by omega) (Nat.le_refl _)).1 B (by
          rw [ksb, show oc.toNatClampNeg = (oc.toNatClampNeg - 1) + 1 by omega]
          exact List.mem_cons.mpr (Or.inl hB.symm))
        exact q.2.2
      refine ⟨by rw [p1, p2]; exact q1, lkD_eq q2 p1 (pk_un ej) (fun z => gpO j j1 (by omega) (fun y => by subst y; unfold blk3 at B3; omega) (by omega)) (by rw [uL_un ej]) (fun _ _ _ => rfl), by rw [p1, p2, pk_un ej]; exact q3, fun z => ?_⟩
      rw [pk_un ej] at z
      have q5 := q4 z
      unfold lkB at q5 ⊢
      rw [pk_un ej, p1]
      refine ⟨q5.1, fun y => ?_, fun y => ?_⟩
      · have ee := rs_els k1 j1 (by omega) y
        rw [q5.2.1 y, va_up_ne _ _ (by omega)]
      · by_cases eB : j = B
        · rw [eB, pk_us, gpB, va_up_ne _ _ (by omega), hxx]
          exact ⟨by omega, by omega⟩
        · have : pos j ≠ pos B := by
            rcases Nat.lt_or_ge j B with w | w
            · have := ck_lt mono j1 w (by omega); omega
            · have := ck_lt mono w2 (show B < j by omega) (by omega); omega
          rw [pk_un this, gpO j j1 (by omega) eB (by unfold blk3 at z; omega)]
          obtain ⟨y1, y2⟩ := q5.2.2 (fun ⟨k, z1, z2⟩ => y ⟨k, by
            by_cases ek : k = oc.toNatClampNeg - 1
            · subst ek; exact absurd (z2.symm.trans hB) eB
            · omega, z2⟩)
          exact ⟨by rw [y1, va_up_ne _ _ (by omega)], by omega⟩
  · obtain ⟨q1, q2, q3⟩ := h4 k (by omega)
    exact ⟨by rw [va_up_ne _ _ (by omega)]; exact q1, q2, by omega⟩
/-- what stays: what was read before -/
theorem ckS_step {lc0 : Int} {start : Nat} {gop0 gpt0 gel0 glb0 en0 el0 gop2 gpt2 gel2 glb2 go2 en2 el2 : Nat → Int32} {gva0 gva2 : Nat → Int64} {pos0 : Nat → Nat} {o r oc2 lc2 n2 : Int32} {c2 : Nat} (h : ckI b en el a n oc lc gop gpt gel glb go gva pos bk cu) (hS : ckS a lc0 start gop0 gpt0 gel0 glb0 en0 el0 gop gpt gel glb en el gva0 gva pos0 pos)
    (hn2 : n2.toInt = n.toInt + 1) (hc2 : n.toInt < 5000) (hoc : 0 ≤ oc.toInt ∧ oc.toInt ≤ 100) (hr : r.toInt = 0 ∨ r.toInt = 1) (st : rstep n o oc lc r oc2 lc2 gop gpt gel glb go gop2 gpt2 gel2 glb2 go2 gva gva2)
    (hlb : ∀ i : Nat, (i : Int) < lc0 → glb2 i = glb i) (he : ∀ p, p < start → en2 p = en p ∧ el2 p = el p) : ckS a lc0 start gop0 gpt0 gel0 glb0 en0 el0 gop2 gpt2 gel2 glb2 en2 el2 gva0 gva2 pos0 (va_up pos (n.toNatClampNeg + 1) c2) := by
  obtain ⟨h1, ⟨a1, a2, a3, a4, a5⟩, h3, h4⟩ := h
  obtain ⟨s1, s2, s3, s4, s5⟩ := hS
  have zn := i32_clamp (x := n) (by omega)
  exact ⟨(rc_next h1 s1 (by decide) ⟨by omega, hc2⟩ hn2 hoc a3 hr st).2, fun i hi => (hlb i hi).trans (s2 i hi), fun j hj => by rw [va_up_ne _ _ (by omega)]; exact s3 j hj, by rw [va_up_ne _ _ (by omega)]; exact s4, fun p hp => ⟨(he p hp).1.trans (s5 p hp).1, (he p hp).2.trans (s5 p hp).2⟩⟩
/-- a function's code, read to its end -/
def ckF (b en el : Nat → Int32) (a m : Nat) (lc : Int) (gop gpt gel glb : Nat → Int32) (gva : Nat → Int64) (pos : Nat → Nat) : Prop :=
  rc_fin a m gop gpt gel gva lc ∧ ∀ j, a ≤ j → j < m → (j + 1 < m → pos j < pos (j + 1) ∧ pos (j + 1) = nxo b (gop j).toInt (pos j + 1)) ∧ lkD b pos gop gpt glb gva j ∧ (blk3 (gop j).toInt → lkB en el pos gpt gel (fun _ => False) m j)
theorem ck_last (h : ckI b en el a n oc lc gop gpt gel glb go gva pos bk cu) {o n2 : Int32} (hn2 : n2.toInt = n.toInt + 1) (hc2 : n.toInt < 5000) (hoc : oc.toInt = 0) (ho : o.toInt = 11) (hb1 : (b (pos n.toNatClampNeg) &&& 255).toInt = o.toInt) :
    rstep n o oc lc 0 oc lc gop gpt gel glb go (upd gop n.toNatClampNeg o) (upd gpt n.toNatClampNeg 0) (upd gel n.toNatClampNeg (-1)) glb go gva (vp_updL gva n.toNatClampNeg 0) ∧
    ckF b en el a n2.toNatClampNeg lc.toInt (upd gop n.toNatClampNeg o) (upd gpt n.toNatClampNeg 0) (upd gel n.toNatClampNeg (-1)) glb (vp_updL gva n.toNatClampNeg 0) pos := by
  obtain ⟨h1, ⟨a1, a2, a3, a4, a5⟩, h3, h4⟩ := h
  have zn := i32_clamp (x := n) (by omega)
  have e2 : n2.toNatClampNeg = n.toNatClampNeg + 1 := by rw [i32_natI hn2]; omega
  have st : rstep n o oc lc 0 oc lc gop gpt gel glb go (upd gop n.toNatClampNeg o) (upd gpt n.toNatClampNeg 0) (upd gel n.toNatClampNeg (-1)) glb go gva (vp_updL gva n.toNatClampNeg 0) :=
    ⟨rfl, Or.inr (Or.inr (Or.inl ⟨ho, rfl, rfl, rfl, rfl, rfl, fun _ => ⟨hoc, rfl, rfl⟩, fun z => absurd z (by decide)⟩))⟩
  have R := (rc_next (gop0 := gop) (gpt0 := gpt) (gel0 := gel) (gva0 := gva) h1 (fun j _ => ⟨rfl, rfl, rfl, rfl⟩) (by decide) ⟨by omega, hc2⟩ hn2 ⟨by omega, by omega⟩ a3 (Or.inl (by decide)) st).1
  refine ⟨st, R.2.2 (by decide), fun j j1 j2 => ?_⟩
  rw [e2] at j2 ⊢
  by_cases ej : j = n.toNatClampNeg
  · subst ej
    refine ⟨fun z => absurd z (by omega), ⟨by rw [pk_us]; exact hb1, fun z => ?_, fun z => ?_, fun z => ?_⟩, fun z => ?_⟩
    · rw [pk_us] at z; unfold opI at z; omega
    · rw [pk_us] at z; omega
    · rw [pk_us] at z; omega
    · rw [pk_us] at z; unfold blk3 at z; omega
  · obtain ⟨q1, q2, q3, q4⟩ := h3 j j1 (by omega)
    refine ⟨fun _ => ⟨q1, by rw [pk_un ej]; exact q3⟩, lkD_eq q2 rfl (pk_un ej) (fun _ => pk_un ej) (by rw [uL_un ej]) (fun _ _ _ => rfl), fun z => ?_⟩
    rw [pk_un ej] at z
    have q5 := q4 z
    unfold lkB at q5 ⊢
    rw [pk_un ej, pk_un ej]
    refine ⟨q5.1, q5.2.1, fun _ => ?_⟩
    obtain ⟨y1, y2⟩ := q5.2.2 (fun ⟨k, z1, z2⟩ => absurd z1 (by omega))
    exact ⟨y1, by omega⟩
theorem ck_begin {n oc lc : Int32} (ho : oc.toInt = 0) (hn : 0 ≤ n.toInt ∧ n.toInt ≤ cu) (hl : 0 ≤ lc.toInt ∧ lc.toInt ≤ cu) (hp : (pos n.toNatClampNeg : Int) = cu) : ckI b en el n.toNatClampNeg n oc lc gop gpt gel glb go gva pos bk cu := by
  have zn := i32_clamp (x := n) (by omega)
  exact ⟨rc_begin ho, ⟨by omega, hn.2, hl.1, hl.2, hp⟩, fun j h1 h2 => absurd h2 (by omega), fun k hk => absurd hk (by omega)⟩
end CK

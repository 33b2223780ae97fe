/-! Coder: the other steps -/
section CI
variable {N fc gc g : Int} {gv tk : Nat → Int} {S T : List Nat} {P Q : List Int} {bs : List Nat} {K D L C c : Int}
/-- a value made into a value -/
theorem cI_11 {t t2 : Int} {M : List ci} {b2 : List Nat} (H : cI N gv tk fc gc g (0 :: T) (t :: P) bs K D L C) (ht : t ≠ 64) (h2 : t2 = 127 ∨ t2 = 126) (e : b2 = enl M) (h8 : 8 * (M.length : Int) ≤ c) (h5 : 5 * (b2.length : Int) ≤ c)
    (hM : ∀ B h, tp 1 B h → cr N gv tk fc gc M B h B h) (hdl : ∀ a, dl M a = some a) (hio : iokl M) : cI N gv tk fc gc g (0 :: T) (t2 :: P) (bs ++ b2) K D L (C + c) := by
  refine cI_app (M := M) H e h8 h5 (fun q => ⟨t2, P, rfl, by unfold ty; omega, cJ_mono T (cJ_0 q).2 (Int.le_refl _) (by omega)⟩) (fun q => ⟨t2, P, rfl, dm_0 q⟩) (Or.inr fun B h w => ?_) (fun l _ q => ⟨t2, P, rfl, cp_mono T (cp_0 q)⟩) (fun q => ⟨q, hdl _⟩) hio
  obtain ⟨w1, w2, w3⟩ := cB_tp1 w ht
  refine ⟨B, h, hM B h w2, t2, P, rfl, ?_⟩
  rw [ga_1 (by omega)]
  exact w1
theorem cI_not {t : Int} (H : cI N gv tk fc gc g (0 :: T) (t :: P) bs K D L C) (ht : t = 127) : cI N gv tk fc gc g (0 :: T) (t :: P) (bs ++ [69]) K D L (C + 16) :=
  cI_11 (M := [(69, 0)]) H (by omega) (by omega) (by decide) (by simp) (by simp) (fun B h q => cr_one (c1_11 q (by omega))) (fun a => dl_1 (by decide)) (by simp [iokl, iok, two])
theorem cI_inv {t : Int} {a b : Nat} (H : cI N gv tk fc gc g (0 :: T) (t :: P) bs K D L C) (ht : t = 127 ∨ t = 126) (ha : a = 65 ∨ a = 66) (hb : b = 115 ∨ b = 133) : cI N gv tk fc gc g (0 :: T) (t :: P) (bs ++ [a, 127, b]) K D L (C + 16) := by
  refine cI_11 (M := [((a : Int), -1), ((b : Int), 0)]) H (by omega) (by omega) (by rcases ha with rfl | rfl <;> rcases hb with rfl | rfl <;> decide) (by simp) (by simp) (fun B h q => ?_) (fun u => dl_app (l := [((a : Int), -1)]) (b := u) (dl_1 (by dsimp only; omega)) (dl_1 (by dsimp only; omega))) (by rcases ha with rfl | rfl <;> rcases hb with rfl | rfl <;> simp [iokl, iok, two])
  refine cr_cons (c1_01 (tp_le q (by omega)) (by omega) (fun z => absurd z (by omega)) (fun z => absurd z (by omega))) ?_
  have := c1_21 (N := N) (gv := gv) (tk := tk) (fc := fc) (gc := gc) (op := b) (v := 0) (tp_up q (k := 1) rfl (by omega)) (by unfold two; omega)
  rw [Int.add_sub_cancel] at this
  exact cr_one this
theorem cI_conv {t t2 : Int} {M : List Nat} (H : cI N gv tk fc gc g (0 :: T) (t :: P) bs K D L C) (ht : t ≠ 64) (h2 : t2 = 127 ∨ t2 = 126) (hM : M = [] ∨ M = [172] ∨ M = [167]) : cI N gv tk fc gc g (0 :: T) (t2 :: P) (bs ++ M) K D L (C + 10) := by
  rcases hM with rfl | rfl | rfl
  · exact cI_11 (M := []) H ht h2 rfl (by simp) (by simp) (fun B h q => ⟨rfl, rfl⟩) (fun a => rfl) trivial
  · exact cI_11 (M := [(172, 0)]) H ht h2 (by decide) (by simp) (by simp) (fun B h q => cr_one (c1_11 q (by omega))) (fun a => dl_1 (by decide)) (by simp [iokl, iok, two])
  · exact cI_11 (M := [(167, 0)]) H ht h2 (by decide) (by simp) (by simp) (fun B h q => cr_one (c1_11 q (by omega))) (fun a => dl_1 (by decide)) (by simp [iokl, iok, two])
theorem cB_rep {pe : Nat → Int32} {m : Nat} {B : List vt} : ∀ (n : Nat) {h : Int}, cB g (List.replicate n 0 ++ T) (pl pe (m + n)) B h → (∀ j, m ≤ j → j < m + n → (pe j).toInt ≠ 64) → cB g T (pl pe m) B (h - n) := by
  intro n
  induction n with
  | zero =>
    intro h H _
    rw [show h - ((0 : Nat) : Int) = h from by omega]
    exact H
  | succ n ih =>
    intro h H hp
    have q := ih (cB_tp1 (t := (pe (m + n)).toInt) (P := pl pe (m + n)) H (hp (m + n) (by omega) (by omega))).1 (fun j a b => hp j a (by omega))
    rw [show h - ((n + 1 : Nat) : Int) = h - 1 - n from by omega]
    exact q
theorem cJ_rep {pe : Nat → Int32} {m : Nat} {b : Int} : ∀ (n : Nat), cJ (List.replicate n 0 ++ T) (pl pe (m + n)) K D L b → cJ T (pl pe m) K D L b := by
  intro n
  induction n with
  | zero => exact fun H => H
  | succ n ih => exact fun H => ih (cJ_0 (t := (pe (m + n)).toInt) (P := pl pe (m + n)) H).2
theorem dm_rep {pe : Nat → Int32} {m : Nat} : ∀ (n : Nat), dm (List.replicate n 0 ++ T) (pl pe (m + n)) → dm T (pl pe m) := by
  intro n
  induction n with
  | zero => exact fun H => H
  | succ n ih => exact fun H => ih (dm_0 (t := (pe (m + n)).toInt) (P := pl pe (m + n)) H)
theorem cp_rep {pe : Nat → Int32} {m : Nat} {l : List ci} : ∀ (n : Nat), cp (List.replicate n 0 ++ T) (pl pe (m + n)) l → cp T (pl pe m) l := by
  intro n
  induction n with
  | zero => exact fun H => H
  | succ n ih => exact fun H => ih (cp_0 (t := (pe (m + n)).toInt) (P := pl pe (m + n)) H)
theorem cJ_n {b : Int} : ∀ (n : Nat) {P : List Int}, cJ (List.replicate n 0 ++ T) P K D L b → n ≤ P.length := by
  intro n
  induction n with
  | zero => exact fun _ => Nat.zero_le _
  | succ n ih =>
    intro P H
    obtain ⟨t, Q, e, -, H⟩ := H
    have := ih H
    rw [e, List.length_cons]
    omega
/-- a call of a function of the program -/
theorem cI_call {pe : Nat → Int32} {m n : Nat} {v t : Int} (H : cI N gv tk fc gc g (List.replicate n 0 ++ T) (pl pe (m + n)) bs K D L C) (hp : ∀ j, m ≤ j → j < m + n → (pe j).toInt ≠ 64) (h0 : 0 ≤ v) (h1 : v < fc) (h9 : v < 128) (hk : tk v.toNat = n) (hg : gv v.toNat = ga t) (ht : ty t) :
    cI N gv tk fc gc g (0 :: T) (t :: pl pe m) (bs ++ [16, v.toNat]) K D L (C + 10) := by
  have gb := ga_b t
  refine cI_app (M := [(16, v)]) H (by rw [enl_one, en_u (by omega) h0 h9]; rfl) (by simp) (by simp) (fun q => ⟨t, _, rfl, ht, cJ_mono T (cJ_rep n q) (Int.le_refl _) (by omega)⟩) (fun q => ⟨t, _, rfl, dm_rep n q⟩) (Or.inr fun B h w => ?_) (fun l _ q => ⟨t, _, rfl, cp_mono T (cp_rep n q)⟩) (fun q => ⟨by simp only [fr_0, fr_rep] at q ⊢; exact q, by rw [fs_rep]; exact dl_1 (a := fs T) (by dsimp only; omega)⟩) ⟨Or.inr (Or.inr (Or.inr (Or.inl ⟨by dsimp only; omega, h0, h9⟩))), trivial⟩
  have q := cB_rep n w hp
  have tq := cB_tp _ q
  refine ⟨B, h - tk v.toNat + gv v.toNat, cr_one (c1_call (tp_le (tp_up tq (k := n) (h2 := h) (by omega) (by omega)) (by omega)) h0 h1 (by omega) (by omega)), t, _, rfl, ?_⟩
  rw [show h - tk v.toNat + gv v.toNat - ga t = h - n from by omega]
  exact q
/-- a call of load8 .. trap -/
def oc (op n t : Int) : Prop := ((op = 40 ∨ op = 41 ∨ op = 44 ∨ op = 45 ∨ op = 64) ∧ n = 1 ∧ t ≠ 64) ∨ ((op = 54 ∨ op = 55 ∨ op = 58) ∧ n = 2 ∧ t = 64) ∨ (op = 63 ∧ n = 0 ∧ t ≠ 64) ∨ (op = 0 ∧ n = 0 ∧ t = 64)
theorem en_own {op n t a : Int} (ho : oc op n t) (h0 : 0 ≤ a) (h1 : a < 128) (h2 : op = 63 ∨ op = 64 ∨ op = 0 → a = 0) : en (op, a) = if op = 0 then [0] else if op = 63 ∨ op = 64 then [op.toNat, 0] else [op.toNat, a.toNat, 0] := by
  unfold oc at ho
  by_cases q : op = 63 ∨ op = 64 ∨ op = 0
  · rw [h2 q]
    rcases q with rfl | rfl | rfl <;> decide
  · unfold en
    rw [if_neg (by dsimp only; omega), if_neg (by dsimp only; omega), if_neg (by dsimp only; omega), if_pos (by dsimp only; omega), leb_end (by dsimp only; omega), if_neg (by omega), if_neg (by omega)]
    dsimp only
    rw [show a.toNat % 256 = a.toNat by omega]
    rfl
theorem cI_own {pe : Nat → Int32} {m n : Nat} {op t a : Int} {b2 : List Nat} (H : cI N gv tk fc gc g (List.replicate n 0 ++ T) (pl pe (m + n)) bs K D L C) (hp : ∀ j, m ≤ j → j < m + n → (pe j).toInt ≠ 64) (ho : oc op n t) (ht : ty t) (hb : b2 = en (op, a)) (h3 : (b2.length : Int) ≤ 3) (hio : iok (op, a)) :
    cI N gv tk fc gc g (0 :: T) (t :: pl pe m) (bs ++ b2) K D L (C + 15) := by
  refine cI_app (M := [(op, a)]) H (by rw [enl_one, hb]) (by simp) (by omega) (fun q => ⟨t, _, rfl, ht, cJ_mono T (cJ_rep n q) (Int.le_refl _) (by omega)⟩) (fun q => ⟨t, _, rfl, dm_rep n q⟩) (Or.inr fun B h w => ?_) (fun l _ q => ⟨t, _, rfl, cp_mono T (cp_rep n q)⟩) (fun q => ⟨by simp only [fr_0, fr_rep] at q ⊢; exact q, by rw [fs_rep]; exact dl_1 (a := fs T) (by unfold oc at ho; dsimp only; omega)⟩) ⟨hio, trivial⟩
  have q := cB_rep n w hp
  have tq := cB_tp _ q
  rcases ho with ⟨a1, a2, a3⟩ | ⟨a1, a2, a3⟩ | ⟨a1, a2, a3⟩ | ⟨a1, a2, a3⟩
  · refine ⟨B, h, cr_one (c1_11 (tp_le (tp_up tq (k := n) (h2 := h) (by omega) (by omega)) (by omega)) (by omega)), t, _, rfl, ?_⟩
    rw [ga_1 a3, show h - 1 = h - n from by omega]
    exact q
  · refine ⟨B, h - 2, cr_one (c1_20 (tp_le (tp_up tq (k := n) (h2 := h) (by omega) (by omega)) (by omega)) (by omega)), t, _, rfl, ?_⟩
    rw [a3, show ga 64 = 0 from rfl, show h - 2 - 0 = h - n from by omega]
    exact q
  · refine ⟨B, h + 1, cr_one (c1_01 (tp_le (tp_up tq (k := n) (h2 := h) (by omega) (by omega)) (by omega)) (by omega) (fun z => absurd z (by omega)) (fun z => absurd z (by omega))), t, _, rfl, ?_⟩
    rw [ga_1 a3, show h + 1 - 1 = h - n from by omega]
    exact q
  · rw [show h - (n : Int) = h from by omega] at q tq
    obtain ⟨⟨o, g2, hb2, d, R, e, e2⟩, e3⟩ := tq
    subst e
    refine ⟨(o, g2, hb2, 1) :: R, h, cr_one (c1_d (cB_tp _ q) (by omega) (by omega)), t, _, rfl, ?_⟩
    rw [a3, show ga 64 = 0 from rfl, show h - 0 = h from by omega]
    exact cB_d _ q
/-- a value taken: declare, assign, discard, then -/
theorem cI_10 {t : Int} {x : ci} {b2 : List Nat} (H : cI N gv tk fc gc g (0 :: T) (t :: P) bs K D L C) (ht : t ≠ 64) (ho : x.1 = 26 ∨ x.1 = 33 ∨ x.1 = 36) (h1 : x.1 = 33 → 0 ≤ x.2 ∧ x.2 < N) (h2 : x.1 = 36 → 0 ≤ x.2 ∧ x.2 < gc) (e : b2 = en x) (h5 : 5 * (b2.length : Int) ≤ c) (h8 : 8 ≤ c) (hio : iok x) :
    cI N gv tk fc gc g T P (bs ++ b2) K D L (C + c) := by
  refine cI_app (M := [x]) H (by rw [enl_one, e]) (by rw [List.length_singleton]; omega) h5 (fun q => cJ_mono T (cJ_0 q).2 (Int.le_refl _) (by omega)) (fun q => dm_0 q) (Or.inr fun B h w => ?_) (fun l _ q => cp_mono T (cp_0 q)) (fun q => ⟨by simp only [fr_0] at q ⊢; exact q, dl_1 (a := fs T) (by omega)⟩) ⟨hio, trivial⟩
  obtain ⟨w1, w2, w3⟩ := cB_tp1 w ht
  exact ⟨B, h - 1, cr_one (c1_10 (op := x.1) (v := x.2) w2 (by omega) h1 h2), w1⟩
theorem cI_void (H : cI N gv tk fc gc g (0 :: T) (64 :: P) bs K D L C) : cI N gv tk fc gc g T P bs K D L (C + 10) := by
  have q := cI_app (M := []) (b2 := []) (c := 10) (S2 := T) (P2 := P) (K2 := K) (D2 := D) (L2 := L) H rfl (by simp) (by simp) (fun q => cJ_mono T (cJ_0 q).2 (Int.le_refl _) (by omega)) (fun q => dm_0 q) (Or.inr fun B h w => ⟨B, h, ⟨rfl, rfl⟩, ?_⟩) (fun l _ q => cp_mono T (cp_0 q)) (fun q => ⟨by simp only [fr_0] at q ⊢; exact q, rfl⟩) trivial
  · rw [List.append_nil] at q
    exact q
  · have := cB_0 w
    rw [show ga 64 = 0 from rfl, show h - 0 = h from by omega] at this
    exact this
/-- return, with a value or none; break, continue -/
theorem cI_dead {op v : Int} {b2 : List Nat} (H : cI N gv tk fc gc g T P bs K D L C) (ho : op = 12 ∨ op = 15) (e : b2 = en (op, v)) (h5 : 5 * (b2.length : Int) ≤ 10) (hio : iok (op, v)) : cI N gv tk fc gc g T P (bs ++ b2) K D L (C + 10) := by
  refine cI_app (M := [(op, v)]) H (by rw [enl_one, e]) (by simp) h5 (fun q => cJ_mono T q (Int.le_refl _) (by omega)) (fun q => q) (Or.inr fun B h w => ?_) (fun l _ q => cp_mono T q) (fun q => ⟨q, dl_1 (by dsimp only; omega)⟩) ⟨hio, trivial⟩
  obtain ⟨⟨o, g2, hb, d, R, e, e2⟩, e3⟩ := cB_tp T w
  subst e
  exact ⟨_, h, cr_one (c1_d (cB_tp T w) (by omega) (by omega)), cB_d T w⟩
theorem cI_ret {t : Int} (H : cI N gv tk fc gc g (0 :: T) (t :: P) bs K D L C) (ht : t ≠ 64) : cI N gv tk fc gc g T P (bs ++ [15]) K D L (C + 10) := by
  refine cI_app (M := [(15, 0)]) H (by decide) (by simp) (by simp) (fun q => cJ_mono T (cJ_0 q).2 (Int.le_refl _) (by omega)) (fun q => dm_0 q) (Or.inr fun B h w => ?_) (fun l _ q => cp_mono T (cp_0 q)) (fun q => ⟨by simp only [fr_0] at q ⊢; exact q, dl_1 (a := fs T) (by dsimp only; omega)⟩) (by simp [iokl, iok, two])
  obtain ⟨w1, w2, w3⟩ := cB_tp1 w ht
  obtain ⟨⟨o, g2, hb, d, R, e, e2⟩, e3⟩ := w3
  subst e
  exact ⟨_, h - 1, cr_one (c1_d (tp_le w2 (by omega)) (by omega) (by omega)), cB_d T w1⟩
theorem cI_then {t : Int} (H : cI N gv tk fc gc g (0 :: T) (t :: P) bs K D L C) (ht : t ≠ 64) (hF : fr (5 :: T) ≤ 100) : cI N gv tk fc gc g (5 :: T) P (bs ++ [4, 64]) K (D + 1) L (C + 10) := by
  refine cI_app (M := [(4, 64)]) H (by decide) (by simp) (by simp) (fun q => ?_) (fun q => dm_0 q) (Or.inr fun B h w => ?_) (fun l _ q => ?_) (fun q => ⟨hF, by have z := fs_len T; have e : fr (5 :: T) = fr T + 1 := rfl; exact dl_p (a := fs T) (Or.inr (Or.inr rfl)) (by omega)⟩) (by simp [iokl, iok, two])
  · show cJ T P K (D + 1 - 1) L _
    rw [Int.add_sub_cancel]
    exact cJ_mono T (cJ_0 q).2 (Int.le_refl _) (by omega)
  · obtain ⟨w1, w2, w3⟩ := cB_tp1 w ht
    exact ⟨(4, 64, h - 1, 0) :: B, h - 1, cr_one (c1_if w2 rfl), 0, B, rfl, w1⟩
  · show cp T P _
    exact cp_mono T (cp_0 q)
theorem cI_else (H : cI N gv tk fc gc g (5 :: T) P bs K D L C) : cI N gv tk fc gc g (6 :: T) P (bs ++ [5]) K D L (C + 10) := by
  refine cI_app (M := [(5, 0)]) H (by decide) (by simp) (by simp) (fun q => cJ_mono T (D := D - 1) q (Int.le_refl _) (by omega)) (fun q => q) (Or.inr fun B h w => ?_) (fun l _ q => cp_mono T q) (fun q => ⟨q, rfl⟩) (by simp [iokl, iok, two])
  obtain ⟨d, R, e, w⟩ := w
  subst e
  have tR := cB_tp T w
  exact ⟨_, h, cr_one (c1_els (by rw [show ga 64 = 0 from rfl]; omega) tR.2.1 tR.2.2), 0, R, rfl, w⟩
theorem cI_fi {x : Nat} (H : cI N gv tk fc gc g (x :: T) P bs K D L C) (hx : x = 5 ∨ x = 6) : cI N gv tk fc gc g T P (bs ++ [11]) K (D - 1) L (C + 10) := by
  rcases hx with rfl | rfl
  · refine cI_app (M := [(11, 0)]) H (by decide) (by simp) (by simp) (fun q => cJ_mono T (D := D - 1) q (Int.le_refl _) (by omega)) (fun q => q) (Or.inr fun B h w => ?_) (fun l _ q => cp_mono T q) (fun q => ⟨by have e : fr (5 :: T) = fr T + 1 := rfl; omega, rfl⟩) (by simp [iokl, iok, two])
    obtain ⟨d, R, e, w⟩ := w
    subst e
    have tR := cB_tp T w
    exact ⟨R, h, cr_one (c1_end (by rw [show ga 64 = 0 from rfl]; omega) (by rw [show ga 64 = 0 from rfl]; omega) tR.2.1 tR.2.2 (fun _ => rfl)), w⟩
  · refine cI_app (M := [(11, 0)]) H (by decide) (by simp) (by simp) (fun q => cJ_mono T (D := D - 1) q (Int.le_refl _) (by omega)) (fun q => q) (Or.inr fun B h w => ?_) (fun l _ q => cp_mono T q) (fun q => ⟨by have e : fr (6 :: T) = fr T + 1 := rfl; omega, rfl⟩) (by simp [iokl, iok, two])
    obtain ⟨d, R, e, w⟩ := w
    subst e
    have tR := cB_tp T w
    exact ⟨R, h, cr_one (c1_end (by rw [show ga 64 = 0 from rfl]; omega) (by rw [show ga 64 = 0 from rfl]; omega) tR.2.1 tR.2.2 (fun _ => rfl)), w⟩
theorem cI_loop (H : cI N gv tk fc gc g S P bs K D L C) (hF : fr (7 :: S) ≤ 100) : cI N gv tk fc gc g (7 :: S) (L :: P) (bs ++ [2, 64, 3, 64]) K (D + 2) (D + 2) (C + 20) := by
  refine cI_app (M := [(2, 64), (3, 64)]) H (by decide) (by simp) (by simp) (fun q => ⟨L, P, rfl, rfl, ?_⟩) (fun q => ⟨L, P, rfl, q⟩) (Or.inr fun B h w => ?_) (fun l _ q => ⟨L, P, rfl, cp_mono S q⟩) (fun q => ⟨hF, by have z := fs_len S; have e : fr (7 :: S) = fr S + 2 := rfl; rw [dl_p (a := fs S) (Or.inl rfl) (by omega)]; exact dl_p (a := 2 :: fs S) (Or.inr (Or.inl rfl)) (by rw [List.length_cons]; omega)⟩) (by simp [iokl, iok, two])
  · rw [Int.add_sub_cancel]
    exact cJ_mono S q (Int.le_refl _) (by omega)
  · have tB := cB_tp S w
    exact ⟨(3, 64, h, 0) :: (2, 64, h, 0) :: B, h, cr_cons (c1_blk tB (by omega)) (cr_one (c1_blk (tp_in tB.2.1 tB.2.2) (by omega))), L, P, 0, 0, B, rfl, rfl, w⟩
theorem cI_test {t : Int} (H : cI N gv tk fc gc g (0 :: 7 :: T) (t :: P) bs K D L C) (ht : t ≠ 64) : cI N gv tk fc gc g (8 :: T) P (bs ++ [69, 13, 1]) K D L (C + 16) := by
  refine cI_app (M := [(69, 0), (13, 1)]) H (by decide) (by simp) (by simp) (fun q => cJ_mono (7 :: T) (cJ_0 q).2 (Int.le_refl _) (by omega)) (fun q => dm_0 q) (Or.inr fun B h w => ?_) (fun l _ q => cp_mono (7 :: T) (cp_0 q)) (fun q => ⟨by have e : fr (0 :: 7 :: T) = fr T + 2 + 0 := rfl; show fr T + 2 ≤ 100; omega, rfl⟩) (by simp [iokl, iok, two])
  obtain ⟨w1, w2, w3⟩ := cB_tp1 w ht
  exact ⟨B, h - 1, cr_cons (c1_11 w2 (by omega)) (cr_one (c1_10 w2 (by omega) (fun z => absurd z (by omega)) (fun z => absurd z (by omega)))), w1⟩
theorem cI_pool {p : Int} (H : cI N gv tk fc gc g (8 :: T) (p :: P) bs K D L C) : cI N gv tk fc gc g T P (bs ++ [12, 0, 11, 11]) K (D - 2) p (C + 24) := by
  refine cI_app (M := [(12, 0), (11, 0), (11, 0)]) H (by decide) (by simp) (by simp) (fun q => ?_) (fun q => ?_) (Or.inr fun B h w => ?_) (fun l _ q => ?_) (fun q => ⟨by have e : fr (8 :: T) = fr T + 2 := rfl; omega, rfl⟩) (by simp [iokl, iok, two])
  · obtain ⟨t, Q, e, -, q⟩ := q
    injection e with e1 e2
    rw [e1, e2]
    exact cJ_mono T q (Int.le_refl _) (by omega)
  · obtain ⟨t, Q, e, q⟩ := q
    injection e with e1 e2
    rw [e2]
    exact q
  · obtain ⟨t, Q, d, d2, R, e, e2, w⟩ := w
    injection e with e3 e4
    subst e2
    rw [e4]
    have tR := cB_tp T w
    have e0 : ga 64 = 0 := rfl
    exact ⟨R, h, cr_cons (c1_d (tp_in tR.2.1 (tp_in tR.2.1 tR.2.2).2.2) (by omega) (Int.le_refl _)) (cr_cons (c1_end (by omega) rfl tR.2.1 (tp_in tR.2.1 tR.2.2).2.2 (fun _ => rfl)) (cr_one (c1_end (by omega) (by omega) tR.2.1 tR.2.2 (fun _ => rfl)))), w⟩
  · obtain ⟨t, Q, e, q⟩ := q
    injection e with e1 e2
    rw [e2]
    exact cp_mono T q
theorem cI_open (H : cI N gv tk fc gc g S P bs K D L C) : cI N gv tk fc gc g (4 :: S) (K :: P) bs K D L (C + 10) := by
  have q := cI_app (M := []) (b2 := []) (c := 10) (S2 := 4 :: S) (P2 := K :: P) (K2 := K) (D2 := D) (L2 := L) H rfl (by simp) (by simp) (fun q => ⟨K, P, rfl, ⟨(cJ_b S q).2.2.2.1, Int.le_refl _⟩, cJ_mono S q (Int.le_refl _) (by omega)⟩) (fun q => ⟨K, P, rfl, q⟩) (Or.inr fun B h w => ⟨B, h, ⟨rfl, rfl⟩, K, P, rfl, w⟩) (fun l _ q => ⟨K, P, rfl, cp_mono S q⟩) (fun q => ⟨by show fr S + 0 ≤ 100; omega, rfl⟩) trivial
  rw [List.append_nil] at q
  exact q
theorem cI_shut {p : Int} (H : cI N gv tk fc gc g (4 :: T) (p :: P) bs K D L C) : cI N gv tk fc gc g T P bs p D L (C + 10) ∧ 0 ≤ p ∧ p ≤ K := by
  refine ⟨?_, ?_⟩
  · have q := cI_app (M := []) (b2 := []) (c := 10) (S2 := T) (P2 := P) (K2 := p) (D2 := D) (L2 := L) H rfl (by simp) (by simp) (fun q => ?_) (fun q => ?_) (Or.inr fun B h w => ?_) (fun l _ q => ?_) (fun q => ⟨by have e : fr (4 :: T) = fr T + 0 := rfl; omega, rfl⟩) trivial
    · rw [List.append_nil] at q
      exact q
    · obtain ⟨t, Q, e, -, q⟩ := q
      injection e with e1 e2
      rw [e1, e2]
      exact cJ_mono T q (Int.le_refl _) (by omega)
    · obtain ⟨t, Q, e, q⟩ := q
      injection e with e1 e2
      rw [e2]
      exact q
    · obtain ⟨t, Q, e, q⟩ := w
      injection e with e1 e2
      exact ⟨B, h, ⟨rfl, rfl⟩, by rw [e2]; exact q⟩
    · obtain ⟨t, Q, e, q⟩ := q
      injection e with e1 e2
      rw [e2]
      exact cp_mono T q
  · obtain ⟨t, Q, e, q, -⟩ := H.1
    injection e with e1 e2
    rw [e1]
    exact q
end CI

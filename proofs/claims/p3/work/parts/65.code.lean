/-! Code that is put: instructions (op, value), their bytes, what they do to the picture -/
abbrev ci : Type := Int × Int
def en (x : ci) : List Nat :=
  if x.1 = 2 ∨ x.1 = 3 ∨ x.1 = 4 then [x.1.toNat, x.2.toNat]
  else if x.1 = 65 ∨ x.1 = 66 then x.1.toNat :: sleb 10 x.2
  else if x.1 = 12 ∨ x.1 = 13 ∨ x.1 = 16 ∨ (32 ≤ x.1 ∧ x.1 ≤ 36) then x.1.toNat :: leb 5 x.2.toNat
  else if x.1 = 40 ∨ x.1 = 41 ∨ x.1 = 44 ∨ x.1 = 45 ∨ x.1 = 54 ∨ x.1 = 55 ∨ x.1 = 58 then x.1.toNat :: (leb 5 x.2.toNat ++ [0])
  else if x.1 = 63 ∨ x.1 = 64 then [x.1.toNat, 0]
  else [x.1.toNat]
def enl : List ci → List Nat
  | [] => []
  | x :: l => en x ++ enl l
theorem enl_app {a b : List ci} : enl (a ++ b) = enl a ++ enl b := by
  induction a with
  | nil => rfl
  | cons x a ih =>
    have e1 : enl (x :: a ++ b) = en x ++ enl (a ++ b) := rfl
    have e2 : enl (x :: a) = en x ++ enl a := rfl
    rw [e1, e2, ih, List.append_assoc]
theorem enl_one {x : ci} : enl [x] = en x := List.append_nil _
theorem en_c {op v : Int} (h : op = 65 ∨ op = 66) : en (op, v) = op.toNat :: sleb 10 v := by
  unfold en
  rw [if_neg (by dsimp only; omega), if_pos h]
theorem en_u {op v : Int} (h : op = 12 ∨ op = 13 ∨ op = 16 ∨ (32 ≤ op ∧ op ≤ 36)) (h0 : 0 ≤ v) (h1 : v < 128) : en (op, v) = [op.toNat, v.toNat] := by
  unfold en
  rw [if_neg (by dsimp only; omega), if_neg (by dsimp only; omega), if_pos h, leb_end (by dsimp only; omega)]
  dsimp only
  rw [show v.toNat % 256 = v.toNat by omega]
theorem en_x {op v : Int} (h : (69 ≤ op ∧ op ≤ 173) ∨ op = 0 ∨ op = 5 ∨ op = 11 ∨ op = 15 ∨ op = 26) : en (op, v) = [op.toNat] := by
  unfold en
  rw [if_neg (by dsimp only; omega), if_neg (by dsimp only; omega), if_neg (by dsimp only; omega), if_neg (by dsimp only; omega), if_neg (by dsimp only; omega)]
def two (op : Int) : Prop := (69 < op ∧ op < 80) ∨ (80 < op ∧ op ≤ 90) ∨ (106 ≤ op ∧ op < 121) ∨ (124 ≤ op ∧ op ≤ 138)
/-- instructions as the Coder puts them -/
def iok (x : ci) : Prop := ((x.1 = 2 ∨ x.1 = 3 ∨ x.1 = 4) ∧ (x.2 = 64 ∨ x.2 = 127)) ∨ (x.1 = 65 ∧ -2147483648 ≤ x.2 ∧ x.2 ≤ 2147483647) ∨ (x.1 = 66 ∧ -9223372036854775808 ≤ x.2 ∧ x.2 ≤ 9223372036854775807) ∨ ((x.1 = 12 ∨ x.1 = 13 ∨ x.1 = 16 ∨ x.1 = 32 ∨ x.1 = 33 ∨ x.1 = 35 ∨ x.1 = 36) ∧ 0 ≤ x.2 ∧ x.2 < 128) ∨ ((x.1 = 40 ∨ x.1 = 41 ∨ x.1 = 44 ∨ x.1 = 45 ∨ x.1 = 54 ∨ x.1 = 55 ∨ x.1 = 58) ∧ 0 ≤ x.2 ∧ x.2 < 128) ∨ ((x.1 = 63 ∨ x.1 = 64 ∨ x.1 = 0 ∨ x.1 = 5 ∨ x.1 = 11 ∨ x.1 = 15 ∨ x.1 = 26 ∨ x.1 = 69 ∨ x.1 = 167 ∨ x.1 = 172 ∨ two x.1) ∧ x.2 = 0)
def iokl : List ci → Prop
  | [] => True
  | x :: l => iok x ∧ iokl l
theorem iokl_app {b : List ci} : ∀ {a : List ci}, iokl a → iokl b → iokl (a ++ b) := by
  intro a
  induction a with
  | nil => exact fun _ h => h
  | cons x a ih => exact fun h1 h2 => ⟨h1.1, ih h1.2 h2⟩
theorem iokl_l {b : List ci} : ∀ {a : List ci}, iokl (a ++ b) → iokl a ∧ iokl b := by
  intro a
  induction a with
  | nil => exact fun h => ⟨trivial, h⟩
  | cons x a ih => exact fun h => ⟨⟨h.1, (ih h.2).1⟩, (ih h.2).2⟩
/-- which blocks are open: 2, 3 a block, a loop; 4 an if, 5 behind its else -/
def d1 (x : ci) (a : List Nat) : Option (List Nat) :=
  if x.1 = 2 ∨ x.1 = 3 ∨ x.1 = 4 then (if a.length < 100 then some (x.1.toNat :: a) else none)
  else if x.1 = 5 then (match a with | 4 :: r => some (5 :: r) | _ => none)
  else if x.1 = 11 then (match a with | _ :: r => some r | [] => none)
  else some a
def dl : List ci → List Nat → Option (List Nat)
  | [], a => some a
  | x :: l, a => match d1 x a with | some b => dl l b | none => none
theorem dl_go {x : ci} {l : List ci} {a b : List Nat} (h : d1 x a = some b) : dl (x :: l) a = dl l b := by
  show (match d1 x a with | some b => dl l b | none => none) = dl l b
  rw [h]
theorem dl_app {l m : List ci} : ∀ {a b c : List Nat}, dl l a = some b → dl m b = some c → dl (l ++ m) a = some c := by
  induction l with
  | nil =>
    intro a b c h1 h2
    rw [show a = b from Option.some.inj h1]
    exact h2
  | cons x l ih =>
    intro a b c h1 h2
    cases e : d1 x a with
    | none =>
      have h1 : (match d1 x a with | some b => dl l b | none => none) = some b := h1
      rw [e] at h1
      cases h1
    | some d =>
      rw [dl_go e] at h1
      rw [List.cons_append, dl_go e]
      exact ih h1 h2
theorem d1_0 {x : ci} {a : List Nat} (h : x.1 ≠ 2 ∧ x.1 ≠ 3 ∧ x.1 ≠ 4 ∧ x.1 ≠ 5 ∧ x.1 ≠ 11) : d1 x a = some a := by
  unfold d1
  rw [if_neg (by omega), if_neg (by omega), if_neg (by omega)]
theorem dl_1 {x : ci} {a : List Nat} (h : x.1 ≠ 2 ∧ x.1 ≠ 3 ∧ x.1 ≠ 4 ∧ x.1 ≠ 5 ∧ x.1 ≠ 11) : dl [x] a = some a := by
  rw [dl_go (d1_0 h)]
  rfl
theorem dl_p {op v : Int} {a : List Nat} {M : List ci} (h : op = 2 ∨ op = 3 ∨ op = 4) (ha : a.length < 100) : dl ((op, v) :: M) a = dl M (op.toNat :: a) := by
  refine dl_go ?_
  unfold d1
  rw [if_pos h, if_pos ha]
def fx (x : Nat) : List Nat := if x = 2 ∨ x = 6 then [5] else if x = 3 ∨ x = 5 then [4] else if x = 7 ∨ x = 8 then [3, 2] else []
def fs : List Nat → List Nat
  | [] => []
  | x :: S => fx x ++ fs S
theorem fx_len : ∀ x : Nat, ((fx x).length : Int) = fw x
  | 0 => rfl
  | 1 => rfl
  | 2 => rfl
  | 3 => rfl
  | 4 => rfl
  | 5 => rfl
  | 6 => rfl
  | 7 => rfl
  | 8 => rfl
  | x + 9 => by
    unfold fx fw
    rw [if_neg (by omega), if_neg (by omega), if_neg (by omega), if_neg (by omega), if_neg (by omega)]
    rfl
theorem fs_len : ∀ S : List Nat, ((fs S).length : Int) = fr S := by
  intro S
  induction S with
  | nil => rfl
  | cons x S ih =>
    have e : (fs (x :: S)).length = (fx x).length + (fs S).length := List.length_append
    have e2 : fr (x :: S) = fr S + fw x := rfl
    have e3 := fx_len x
    omega
theorem fs_rep {S : List Nat} : ∀ n, fs (List.replicate n 0 ++ S) = fs S := by
  intro n
  induction n with
  | zero => rfl
  | succ n ih => exact ih
theorem fr_nn : ∀ S : List Nat, 0 ≤ fr S := by
  intro S
  induction S with
  | nil => exact Int.le_refl _
  | cons x S ih =>
    have := fw_b x
    show 0 ≤ fr S + fw x
    omega
theorem fr_0 {S : List Nat} : fr (0 :: S) = fr S := by
  show fr S + fw 0 = fr S
  have : fw 0 = 0 := rfl
  omega
/-- the top block with n values above its ground -/
def tp (n : Int) (B : List vt) (h : Int) : Prop := (∃ (o g hb d : Int) (R : List vt), B = (o, g, hb, d) :: R ∧ hb + n ≤ h) ∧ 0 ≤ h ∧ ∀ y ∈ B, 0 ≤ y.2.2.1
def cB (g : Int) : List Nat → List Int → List vt → Int → Prop
  | [], P, B, h => P = [] ∧ h = 0 ∧ ∃ o d, B = [(o, g, 0, d)]
  | 0 :: S, P, B, h => ∃ t Q, P = t :: Q ∧ cB g S Q B (h - ga t)
  | 1 :: S, P, B, h => ∃ t Q, P = t :: Q ∧ cB g S Q B (h - 1)
  | 2 :: S, P, B, h => ∃ t Q d R, P = t :: Q ∧ B = (5, 127, h, d) :: R ∧ cB g S Q R h
  | 3 :: S, P, B, h => ∃ t Q d R, P = t :: Q ∧ B = (4, 127, h, d) :: R ∧ cB g S Q R h
  | 4 :: S, P, B, h => ∃ t Q, P = t :: Q ∧ cB g S Q B h
  | 5 :: S, P, B, h => ∃ d R, B = (4, 64, h, d) :: R ∧ cB g S P R h
  | 6 :: S, P, B, h => ∃ d R, B = (5, 64, h, d) :: R ∧ cB g S P R h
  | 7 :: S, P, B, h => ∃ t Q d d2 R, P = t :: Q ∧ B = (3, 64, h, d) :: (2, 64, h, d2) :: R ∧ cB g S Q R h
  | 8 :: S, P, B, h => ∃ t Q d d2 R, P = t :: Q ∧ B = (3, 64, h, d) :: (2, 64, h, d2) :: R ∧ cB g S Q R h
  | _ :: _, _, _, _ => False
theorem ga_b (t : Int) : 0 ≤ ga t ∧ ga t ≤ 1 := by
  unfold ga
  split <;> omega
theorem ga_1 {t : Int} (h : t ≠ 64) : ga t = 1 := if_neg h
theorem tp_le {n m : Int} {B : List vt} {h : Int} (H : tp n B h) (e : m ≤ n) : tp m B h := by
  obtain ⟨⟨o, g, hb, d, R, a1, a2⟩, a3⟩ := H
  exact ⟨⟨o, g, hb, d, R, a1, by omega⟩, a3⟩
theorem tp_up {n k : Int} {B : List vt} {h h2 : Int} (H : tp n B h) (e : h2 = h + k) (hk : 0 ≤ k) : tp (n + k) B h2 := by
  obtain ⟨⟨o, g, hb, d, R, a1, a2⟩, a3, a4⟩ := H
  exact ⟨⟨o, g, hb, d, R, a1, by omega⟩, by omega, a4⟩
theorem tp_in {o g d h : Int} {R : List vt} (h0 : 0 ≤ h) (H : ∀ y ∈ R, 0 ≤ y.2.2.1) : tp 0 ((o, g, h, d) :: R) h :=
  ⟨⟨o, g, h, d, R, rfl, by omega⟩, h0, fun y hy => by
    rcases List.mem_cons.mp hy with z | z
    · rw [z]; exact h0
    · exact H y z⟩
theorem cB_tp {g : Int} : ∀ (S : List Nat) {P : List Int} {B : List vt} {h : Int}, cB g S P B h → tp 0 B h := by
  intro S
  induction S with
  | nil =>
    intro P B h H
    obtain ⟨-, rfl, o, d, rfl⟩ := H
    exact tp_in (Int.le_refl _) (fun y hy => by cases hy)
  | cons x S ih =>
    intro P B h H
    unfold cB at H
    split at H
    · cases ‹x :: S = []›
    all_goals try exact H.elim
    all_goals rename_i e
    all_goals injection e with e1 e2
    all_goals subst e2
    · obtain ⟨t, Q, -, H⟩ := H
      have := ga_b t
      exact tp_le (tp_up (ih H) (k := ga t) (by rw [Int.sub_add_cancel]) (by omega)) (by omega)
    · obtain ⟨t, Q, -, H⟩ := H
      exact tp_le (tp_up (ih H) (k := 1) (by rw [Int.sub_add_cancel]) (by omega)) (by omega)
    · obtain ⟨t, Q, d, R, -, rfl, H⟩ := H
      exact tp_in (ih H).2.1 (ih H).2.2
    · obtain ⟨t, Q, d, R, -, rfl, H⟩ := H
      exact tp_in (ih H).2.1 (ih H).2.2
    · obtain ⟨t, Q, -, H⟩ := H
      exact ih H
    · obtain ⟨d, R, rfl, H⟩ := H
      exact tp_in (ih H).2.1 (ih H).2.2
    · obtain ⟨d, R, rfl, H⟩ := H
      exact tp_in (ih H).2.1 (ih H).2.2
    · obtain ⟨t, Q, d, d2, R, -, rfl, H⟩ := H
      exact tp_in (ih H).2.1 (tp_in (o := 2) (g := 64) (d := d2) (ih H).2.1 (ih H).2.2).2.2
    · obtain ⟨t, Q, d, d2, R, -, rfl, H⟩ := H
      exact tp_in (ih H).2.1 (tp_in (o := 2) (g := 64) (d := d2) (ih H).2.1 (ih H).2.2).2.2
/-- one instruction; some -/
def c1 (N : Int) (gv tk : Nat → Int) (fc gc : Int) (x : ci) (B : List vt) (h : Int) (B2 : List vt) (h2 : Int) : Prop := vr (fun _ => N) gv tk fc gc 0 x.1 x.2 B h B2 h2 ∧ 0 ≤ h2 ∧ ∀ y ∈ B2, 0 ≤ y.2.2.1
def cr (N : Int) (gv tk : Nat → Int) (fc gc : Int) : List ci → List vt → Int → List vt → Int → Prop
  | [], B, h, B2, h2 => B2 = B ∧ h2 = h
  | x :: l, B, h, B2, h2 => ∃ B1 h1, c1 N gv tk fc gc x B h B1 h1 ∧ cr N gv tk fc gc l B1 h1 B2 h2
section CR
variable {N fc gc : Int} {gv tk : Nat → Int}
theorem cr_app {a b : List ci} : ∀ {B : List vt} {h : Int} {B1 : List vt} {h1 : Int} {B2 : List vt} {h2 : Int}, cr N gv tk fc gc a B h B1 h1 → cr N gv tk fc gc b B1 h1 B2 h2 → cr N gv tk fc gc (a ++ b) B h B2 h2 := by
  induction a with
  | nil =>
    intro B h B1 h1 B2 h2 H1 H2
    obtain ⟨rfl, rfl⟩ := H1
    exact H2
  | cons x a ih =>
    intro B h B1 h1 B2 h2 H1 H2
    obtain ⟨B3, h3, p, q⟩ := H1
    exact ⟨B3, h3, p, ih q H2⟩
theorem cr_split {a b : List ci} : ∀ {B : List vt} {h : Int} {B2 : List vt} {h2 : Int}, cr N gv tk fc gc (a ++ b) B h B2 h2 → ∃ B1 h1, cr N gv tk fc gc a B h B1 h1 ∧ cr N gv tk fc gc b B1 h1 B2 h2 := by
  induction a with
  | nil =>
    intro B h B2 h2 H
    exact ⟨B, h, ⟨rfl, rfl⟩, H⟩
  | cons x a ih =>
    intro B h B2 h2 H
    obtain ⟨B3, h3, p, q⟩ := H
    obtain ⟨B1, h1, q1, q2⟩ := ih q
    exact ⟨B1, h1, ⟨B3, h3, p, q1⟩, q2⟩
theorem cr_one {x : ci} {B B2 : List vt} {h h2 : Int} (H : c1 N gv tk fc gc x B h B2 h2) : cr N gv tk fc gc [x] B h B2 h2 := ⟨B2, h2, H, rfl, rfl⟩
theorem cr_cons {x : ci} {l : List ci} {B B1 B2 : List vt} {h h1 h2 : Int} (H : c1 N gv tk fc gc x B h B1 h1) (H2 : cr N gv tk fc gc l B1 h1 B2 h2) : cr N gv tk fc gc (x :: l) B h B2 h2 := ⟨B1, h1, H, H2⟩
theorem c1_mono {N2 : Int} (e : N ≤ N2) {x : ci} {B B2 : List vt} {h h2 : Int} (H : c1 N gv tk fc gc x B h B2 h2) : c1 N2 gv tk fc gc x B h B2 h2 := by
  obtain ⟨⟨o, g, hb, d, R, a1, a2, a3, a4, a5, a6, a7, a8, a9, a10, a11, a12, a13, a14, a15⟩, H2⟩ := H
  exact ⟨⟨o, g, hb, d, R, a1, a2, a3, a4, a5, a6, a7, a8, a9, a10, a11, a12, a13, fun z => ⟨(a14 z).1, Int.lt_of_lt_of_le (a14 z).2 e⟩, a15⟩, H2⟩
theorem cr_mono {N2 : Int} (e : N ≤ N2) {l : List ci} : ∀ {B B2 : List vt} {h h2 : Int}, cr N gv tk fc gc l B h B2 h2 → cr N2 gv tk fc gc l B h B2 h2 := by
  induction l with
  | nil => exact fun H => H
  | cons x l ih =>
    intro B B2 h h2 H
    obtain ⟨B1, h1, p, q⟩ := H
    exact ⟨B1, h1, c1_mono e p, ih q⟩
theorem c1_01 {op v : Int} {B : List vt} {h : Int} (H : tp 0 B h) (ho : op = 32 ∨ op = 35 ∨ op = 63 ∨ op = 65 ∨ op = 66) (h1 : op = 32 → 0 ≤ v ∧ v < N) (h2 : op = 35 → 0 ≤ v ∧ v < gc) : c1 N gv tk fc gc (op, v) B h B (h + 1) := by
  obtain ⟨⟨o, g, hb, d, R, e, a2⟩, a3, a4⟩ := H
  refine ⟨⟨o, g, hb, d, R, e, by omega, ?_⟩, by omega, a4⟩
  dsimp only
  refine ⟨?_, ?_, ?_, ?_, ?_, ?_, ?_, ?_, ?_, ?_, ?_, ?_, ?_, ?_, ?_, ?_, ?_, ?_⟩ <;> intro z <;> first | (exfalso; omega) | skip
  · exact h1 (by omega)
  · exact h2 (by omega)
  · exact ⟨rfl, by omega, fun _ => ⟨by omega, by omega⟩⟩
theorem c1_10 {op v : Int} {B : List vt} {h : Int} (H : tp 1 B h) (ho : op = 26 ∨ op = 33 ∨ op = 36 ∨ op = 13) (h1 : op = 33 → 0 ≤ v ∧ v < N) (h2 : op = 36 → 0 ≤ v ∧ v < gc) : c1 N gv tk fc gc (op, v) B h B (h - 1) := by
  obtain ⟨⟨o, g, hb, d, R, e, a2⟩, a3, a4⟩ := H
  have hb0 : 0 ≤ hb := a4 (o, g, hb, d) (by rw [e]; exact List.mem_cons_self)
  refine ⟨⟨o, g, hb, d, R, e, by omega, ?_⟩, by omega, a4⟩
  dsimp only
  refine ⟨?_, ?_, ?_, ?_, ?_, ?_, ?_, ?_, ?_, ?_, ?_, ?_, ?_, ?_, ?_, ?_, ?_, ?_⟩ <;> intro z <;> first | (exfalso; omega) | skip
  · exact ⟨rfl, by omega, fun _ => ⟨by omega, by omega⟩⟩
  · exact ⟨rfl, by omega, fun _ => ⟨by omega, by omega⟩⟩
  · exact h1 (by omega)
  · exact h2 (by omega)
  · exact ⟨rfl, by omega, fun _ => ⟨by omega, by omega⟩⟩
theorem c1_11 {op v : Int} {B : List vt} {h : Int} (H : tp 1 B h) (ho : op = 64 ∨ op = 40 ∨ op = 41 ∨ op = 44 ∨ op = 45 ∨ op = 69 ∨ op = 167 ∨ op = 172) : c1 N gv tk fc gc (op, v) B h B h := by
  obtain ⟨⟨o, g, hb, d, R, e, a2⟩, a3, a4⟩ := H
  refine ⟨⟨o, g, hb, d, R, e, by omega, ?_⟩, by omega, a4⟩
  dsimp only
  refine ⟨?_, ?_, ?_, ?_, ?_, ?_, ?_, ?_, ?_, ?_, ?_, ?_, ?_, ?_, ?_, ?_, ?_, ?_⟩ <;> intro z <;> first | (exfalso; omega) | skip
  exact ⟨rfl, by omega, fun _ => ⟨by omega, by omega⟩⟩
theorem c1_21 {op v : Int} {B : List vt} {h : Int} (H : tp 2 B h) (ho : two op) : c1 N gv tk fc gc (op, v) B h B (h - 1) := by
  obtain ⟨⟨o, g, hb, d, R, e, a2⟩, a3, a4⟩ := H
  have hb0 : 0 ≤ hb := a4 (o, g, hb, d) (by rw [e]; exact List.mem_cons_self)
  unfold two at ho
  refine ⟨⟨o, g, hb, d, R, e, by omega, ?_⟩, by omega, a4⟩
  dsimp only
  refine ⟨?_, ?_, ?_, ?_, ?_, ?_, ?_, ?_, ?_, ?_, ?_, ?_, ?_, ?_, ?_, ?_, ?_, ?_⟩ <;> intro z <;> first | (exfalso; omega) | skip
  exact ⟨rfl, by omega, fun _ => ⟨by omega, by omega⟩⟩
theorem c1_20 {op v : Int} {B : List vt} {h : Int} (H : tp 2 B h) (ho : op = 54 ∨ op = 55 ∨ op = 58) : c1 N gv tk fc gc (op, v) B h B (h - 2) := by
  obtain ⟨⟨o, g, hb, d, R, e, a2⟩, a3, a4⟩ := H
  have hb0 : 0 ≤ hb := a4 (o, g, hb, d) (by rw [e]; exact List.mem_cons_self)
  refine ⟨⟨o, g, hb, d, R, e, by omega, ?_⟩, by omega, a4⟩
  dsimp only
  refine ⟨?_, ?_, ?_, ?_, ?_, ?_, ?_, ?_, ?_, ?_, ?_, ?_, ?_, ?_, ?_, ?_, ?_, ?_⟩ <;> intro z <;> first | (exfalso; omega) | skip
  exact ⟨rfl, by omega, fun _ => ⟨by omega, by omega⟩⟩
theorem c1_call {v : Int} {B : List vt} {h : Int} (H : tp (tk v.toNat) B h) (h0 : 0 ≤ v) (h1 : v < fc) (h2 : 0 ≤ gv v.toNat) (h3 : 0 ≤ tk v.toNat) : c1 N gv tk fc gc (16, v) B h B (h - tk v.toNat + gv v.toNat) := by
  obtain ⟨⟨o, g, hb, d, R, e, a2⟩, a3, a4⟩ := H
  have hb0 : 0 ≤ hb := a4 (o, g, hb, d) (by rw [e]; exact List.mem_cons_self)
  refine ⟨⟨o, g, hb, d, R, e, by omega, ?_⟩, by omega, a4⟩
  dsimp only
  refine ⟨?_, ?_, ?_, ?_, ?_, ?_, ?_, ?_, ?_, ?_, ?_, ?_, ?_, ?_, ?_, ?_, ?_, ?_⟩ <;> intro z <;> first | (exfalso; omega) | skip
  exact ⟨h0, h1, rfl, by omega, fun _ => ⟨by omega, by omega⟩⟩
/-- what ends: the block is dead from here -/
theorem c1_d {op v o g hb d h h2 : Int} {R : List vt} (H : tp 0 ((o, g, hb, d) :: R) h) (ho : op = 0 ∨ op = 12 ∨ op = 15) (h1 : hb ≤ h2) : c1 N gv tk fc gc (op, v) ((o, g, hb, d) :: R) h ((o, g, hb, 1) :: R) h2 := by
  obtain ⟨⟨o1, g1, hb1, d1, R1, e, a2⟩, a3, a4⟩ := H
  have hb0 : 0 ≤ hb := a4 (o, g, hb, d) List.mem_cons_self
  injection e with e1 e2
  injection e1 with e3 e4
  injection e4 with e5 e6
  injection e6 with e7 e8
  refine ⟨⟨o, g, hb, d, R, rfl, by omega, ?_⟩, by omega, fun y hy => ?_⟩
  · dsimp only
    refine ⟨?_, ?_, ?_, ?_, ?_, ?_, ?_, ?_, ?_, ?_, ?_, ?_, ?_, ?_, ?_, ?_, ?_, ?_⟩ <;> intro z <;> first | (exfalso; omega) | skip
    exact ⟨1, rfl, h1⟩
  · rcases List.mem_cons.mp hy with z | z
    · rw [z]; exact hb0
    · exact a4 y (List.mem_cons_of_mem _ z)
theorem c1_blk {op v : Int} {B : List vt} {h : Int} (H : tp 0 B h) (ho : op = 2 ∨ op = 3) : c1 N gv tk fc gc (op, v) B h ((op, v, h, 0) :: B) h := by
  obtain ⟨⟨o, g, hb, d, R, e, a2⟩, a3, a4⟩ := H
  refine ⟨⟨o, g, hb, d, R, e, by omega, ?_⟩, by omega, (tp_in (o := op) (g := v) (d := 0) a3 a4).2.2⟩
  dsimp only
  refine ⟨?_, ?_, ?_, ?_, ?_, ?_, ?_, ?_, ?_, ?_, ?_, ?_, ?_, ?_, ?_, ?_, ?_, ?_⟩ <;> intro z <;> first | (exfalso; omega) | skip
  exact ⟨rfl, rfl⟩
theorem c1_if {v : Int} {B : List vt} {h h2 : Int} (H : tp 1 B h) (e2 : h2 = h - 1) : c1 N gv tk fc gc (4, v) B h ((4, v, h2, 0) :: B) h2 := by
  subst e2
  obtain ⟨⟨o, g, hb, d, R, e, a2⟩, a3, a4⟩ := H
  have hb0 : 0 ≤ hb := a4 (o, g, hb, d) (by rw [e]; exact List.mem_cons_self)
  refine ⟨⟨o, g, hb, d, R, e, by omega, ?_⟩, by omega, (tp_in (o := 4) (g := v) (d := 0) (by omega) a4).2.2⟩
  dsimp only
  refine ⟨?_, ?_, ?_, ?_, ?_, ?_, ?_, ?_, ?_, ?_, ?_, ?_, ?_, ?_, ?_, ?_, ?_, ?_⟩ <;> intro z <;> first | (exfalso; omega) | skip
  exact ⟨rfl, by omega, fun _ => ⟨by omega, rfl⟩⟩
theorem c1_els {v o g hb d h : Int} {R : List vt} (e : h = hb + ga g) (h0 : 0 ≤ hb) (hR : ∀ y ∈ R, 0 ≤ y.2.2.1) : c1 N gv tk fc gc (5, v) ((o, g, hb, d) :: R) h ((5, g, hb, 0) :: R) hb := by
  have := ga_b g
  refine ⟨⟨o, g, hb, d, R, rfl, by omega, ?_⟩, h0, (tp_in (o := 5) (g := g) (d := 0) h0 hR).2.2⟩
  dsimp only
  refine ⟨?_, ?_, ?_, ?_, ?_, ?_, ?_, ?_, ?_, ?_, ?_, ?_, ?_, ?_, ?_, ?_, ?_, ?_⟩ <;> intro z <;> first | (exfalso; omega) | skip
  exact ⟨rfl, rfl, fun _ => e⟩
theorem c1_end {v o g hb d h h2 : Int} {R : List vt} (e : h = hb + ga g) (e2 : h2 = hb + ga g) (h0 : 0 ≤ hb) (hR : ∀ y ∈ R, 0 ≤ y.2.2.1) (ho : o = 4 → g = 64) : c1 N gv tk fc gc (11, v) ((o, g, hb, d) :: R) h R h2 := by
  have := ga_b g
  refine ⟨⟨o, g, hb, d, R, rfl, by omega, ?_⟩, by omega, hR⟩
  dsimp only
  refine ⟨?_, ?_, ?_, ?_, ?_, ?_, ?_, ?_, ?_, ?_, ?_, ?_, ?_, ?_, ?_, ?_, ?_, ?_⟩ <;> intro z <;> first | (exfalso; omega) | skip
  exact ⟨fun _ => e, ho, fun _ => ⟨rfl, e2⟩⟩
theorem c1_66 {B B2 : List vt} {h h2 : Int} (H : c1 N gv tk fc gc (65, 0) B h B2 h2) : c1 N gv tk fc gc (66, 0) B h B2 h2 := by
  obtain ⟨⟨o, g, hb, d, R, e, a2, -, -, -, -, -, -, -, -, -, -, -, -, -, q, -⟩, H2⟩ := H
  refine ⟨⟨o, g, hb, d, R, e, a2, ?_⟩, H2⟩
  dsimp only
  refine ⟨?_, ?_, ?_, ?_, ?_, ?_, ?_, ?_, ?_, ?_, ?_, ?_, ?_, ?_, ?_, ?_, ?_, ?_⟩ <;> intro z <;> first | (exfalso; omega) | skip
  exact q (by decide)
end CR

/-! Coder: what is open, what waits, the code so far -/
def ty (t : Int) : Prop := t = 127 ∨ t = 126 ∨ t = 64
def pl (pe : Nat → Int32) : Nat → List Int
  | 0 => []
  | n + 1 => (pe n).toInt :: pl pe n
theorem pl_len {pe : Nat → Int32} : ∀ n, (pl pe n).length = n := by
  intro n
  induction n with
  | zero => rfl
  | succ n ih =>
    have : pl pe (n + 1) = (pe n).toInt :: pl pe n := rfl
    rw [this, List.length_cons, ih]
theorem pl_upd {pe : Nat → Int32} {m : Nat} {x : Int32} : ∀ n, n ≤ m → pl (upd pe m x) n = pl pe n := by
  intro n
  induction n with
  | zero => intro _; rfl
  | succ n ih =>
    intro h
    have e1 : pl (upd pe m x) (n + 1) = (upd pe m x n).toInt :: pl (upd pe m x) n := rfl
    have e2 : pl pe (n + 1) = (pe n).toInt :: pl pe n := rfl
    rw [e1, e2, ih (by omega), pk_un (by omega)]
theorem pl_put {pe : Nat → Int32} {m : Nat} {x : Int32} : pl (upd pe m x) (m + 1) = x.toInt :: pl pe m := by
  have e1 : pl (upd pe m x) (m + 1) = (upd pe m x m).toInt :: pl (upd pe m x) m := rfl
  rw [e1, pk_us, pl_upd m (Nat.le_refl _)]
def cp : List Nat → List Int → List ci → Prop
  | [], _, _ => True
  | 1 :: S, P, l => ∃ p Q a b, P = p :: Q ∧ l = a ++ (65, 0) :: b ∧ ((enl a).length : Int) = p ∧ cp S Q a
  | 5 :: S, P, l => cp S P l
  | 6 :: S, P, l => cp S P l
  | _ :: S, P, l => ∃ t Q, P = t :: Q ∧ cp S Q l
def dm : List Nat → List Int → Prop
  | [], _ => False
  | 2 :: S, P => ∃ t Q, P = t :: Q ∧ (t = 64 ∨ dm S Q)
  | 3 :: S, P => ∃ t Q, P = t :: Q ∧ (t = 64 ∨ dm S Q)
  | 5 :: S, P => dm S P
  | 6 :: S, P => dm S P
  | _ :: S, P => ∃ t Q, P = t :: Q ∧ dm S Q
def cJ : List Nat → List Int → Int → Int → Int → Int → Prop
  | [], P, K, D, L, b => P = [] ∧ 0 ≤ K ∧ D = 0 ∧ L = 0 ∧ 0 ≤ b
  | 1 :: S, P, K, D, L, b => ∃ p Q, P = p :: Q ∧ (0 ≤ p ∧ p + 2 ≤ b) ∧ cJ S Q K D L p
  | 4 :: S, P, K, D, L, b => ∃ p Q, P = p :: Q ∧ (0 ≤ p ∧ p ≤ K) ∧ cJ S Q p D L b
  | 5 :: S, P, K, D, L, b => cJ S P K (D - 1) L b
  | 6 :: S, P, K, D, L, b => cJ S P K (D - 1) L b
  | 7 :: S, P, K, D, L, b => ∃ p Q, P = p :: Q ∧ L = D ∧ cJ S Q K (D - 2) p b
  | 8 :: S, P, K, D, L, b => ∃ p Q, P = p :: Q ∧ L = D ∧ cJ S Q K (D - 2) p b
  | _ :: S, P, K, D, L, b => ∃ t Q, P = t :: Q ∧ ty t ∧ cJ S Q K D L b
theorem cp_mono : ∀ (S : List Nat) {P : List Int} {l M : List ci}, cp S P l → cp S P (l ++ M) := by
  intro S
  induction S with
  | nil => intro P l M _; trivial
  | cons x S ih =>
    intro P l M H
    rcases x with _ | _ | _ | _ | _ | _ | _ | _ | _ | x
    · obtain ⟨t, Q, q1, q2⟩ := H
      exact ⟨t, Q, q1, ih q2⟩
    · obtain ⟨p, Q, a, b, q1, q2, q3, q4⟩ := H
      exact ⟨p, Q, a, b ++ M, q1, by rw [q2, List.append_assoc]; rfl, q3, q4⟩
    · obtain ⟨t, Q, q1, q2⟩ := H
      exact ⟨t, Q, q1, ih q2⟩
    · obtain ⟨t, Q, q1, q2⟩ := H
      exact ⟨t, Q, q1, ih q2⟩
    · obtain ⟨t, Q, q1, q2⟩ := H
      exact ⟨t, Q, q1, ih q2⟩
    · exact ih (P := P) (l := l) (M := M) H
    · exact ih (P := P) (l := l) (M := M) H
    · obtain ⟨t, Q, q1, q2⟩ := H
      exact ⟨t, Q, q1, ih q2⟩
    · obtain ⟨t, Q, q1, q2⟩ := H
      exact ⟨t, Q, q1, ih q2⟩
    · obtain ⟨t, Q, q1, q2⟩ := H
      exact ⟨t, Q, q1, ih q2⟩
theorem cJ_mono : ∀ (S : List Nat) {P : List Int} {K D L b K2 b2 : Int}, cJ S P K D L b → K ≤ K2 → b ≤ b2 → cJ S P K2 D L b2 := by
  intro S
  induction S with
  | nil =>
    intro P K D L b K2 b2 H h1 h2
    obtain ⟨a1, a2, a3, a4, a5⟩ := H
    exact ⟨a1, by omega, a3, a4, by omega⟩
  | cons x S ih =>
    intro P K D L b K2 b2 H h1 h2
    rcases x with _ | _ | _ | _ | _ | _ | _ | _ | _ | x
    · obtain ⟨p, Q, q1, q2, q3⟩ := H
      exact ⟨p, Q, q1, q2, ih q3 h1 h2⟩
    · obtain ⟨p, Q, q1, q2, q3⟩ := H
      exact ⟨p, Q, q1, ⟨q2.1, Int.le_trans q2.2 h2⟩, ih q3 h1 (Int.le_refl _)⟩
    · obtain ⟨p, Q, q1, q2, q3⟩ := H
      exact ⟨p, Q, q1, q2, ih q3 h1 h2⟩
    · obtain ⟨p, Q, q1, q2, q3⟩ := H
      exact ⟨p, Q, q1, q2, ih q3 h1 h2⟩
    · obtain ⟨p, Q, q1, q2, q3⟩ := H
      exact ⟨p, Q, q1, ⟨q2.1, Int.le_trans q2.2 h1⟩, ih q3 (Int.le_refl _) h2⟩
    · exact ih (P := P) (D := D - 1) (L := L) H h1 h2
    · exact ih (P := P) (D := D - 1) (L := L) H h1 h2
    · obtain ⟨p, Q, q1, q2, q3⟩ := H
      exact ⟨p, Q, q1, q2, ih q3 h1 h2⟩
    · obtain ⟨p, Q, q1, q2, q3⟩ := H
      exact ⟨p, Q, q1, q2, ih q3 h1 h2⟩
    · obtain ⟨p, Q, q1, q2, q3⟩ := H
      exact ⟨p, Q, q1, q2, ih q3 h1 h2⟩
theorem cJ_b : ∀ (S : List Nat) {P : List Int} {K D L b : Int}, cJ S P K D L b → 0 ≤ L ∧ L ≤ D ∧ D ≤ fr S ∧ 0 ≤ K ∧ 0 ≤ b ∧ P.length ≤ S.length := by
  intro S
  induction S with
  | nil =>
    intro P K D L b H
    obtain ⟨a1, a2, a3, a4, a5⟩ := H
    refine ⟨by omega, by omega, ?_, a2, a5, by rw [a1]; exact Nat.le_refl _⟩
    show D ≤ 0
    omega
  | cons x S ih =>
    intro P K D L b H
    have e0 : fr (x :: S) = fr S + fw x := rfl
    have e9 := fw_b x
    rw [e0, List.length_cons]
    rcases x with _ | _ | _ | _ | _ | _ | _ | _ | _ | x
    · obtain ⟨p, Q, q1, q2, q3⟩ := H
      have w := ih q3
      rw [q1, List.length_cons]
      omega
    · obtain ⟨p, Q, q1, q2, q3⟩ := H
      have w := ih q3
      rw [q1, List.length_cons]
      omega
    · obtain ⟨p, Q, q1, q2, q3⟩ := H
      have w := ih q3
      rw [q1, List.length_cons]
      omega
    · obtain ⟨p, Q, q1, q2, q3⟩ := H
      have w := ih q3
      rw [q1, List.length_cons]
      omega
    · obtain ⟨p, Q, q1, q2, q3⟩ := H
      have w := ih q3
      rw [q1, List.length_cons]
      omega
    · have w := ih (P := P) (D := D - 1) (L := L) H
      have z : fw (0 + 1 + 1 + 1 + 1 + 1) = 1 := rfl
      omega
    · have w := ih (P := P) (D := D - 1) (L := L) H
      have z : fw (0 + 1 + 1 + 1 + 1 + 1 + 1) = 1 := rfl
      omega
    · obtain ⟨p, Q, q1, q2, q3⟩ := H
      have w := ih q3
      have z : fw (0 + 1 + 1 + 1 + 1 + 1 + 1 + 1) = 2 := rfl
      rw [q1, List.length_cons]
      omega
    · obtain ⟨p, Q, q1, q2, q3⟩ := H
      have w := ih q3
      have z : fw (0 + 1 + 1 + 1 + 1 + 1 + 1 + 1 + 1) = 2 := rfl
      rw [q1, List.length_cons]
      omega
    · obtain ⟨p, Q, q1, q2, q3⟩ := H
      have w := ih q3
      rw [q1, List.length_cons]
      omega
theorem cB_d {g o g2 hb d : Int} {R : List vt} : ∀ (S : List Nat) {P : List Int} {h : Int}, cB g S P ((o, g2, hb, d) :: R) h → cB g S P ((o, g2, hb, 1) :: R) h := by
  intro S
  induction S with
  | nil =>
    intro P h H
    obtain ⟨a1, a2, o2, d2, a3⟩ := H
    injection a3 with a3 a4
    injection a3 with a5 a6
    injection a6 with a6 a7
    injection a7 with a7 a8
    exact ⟨a1, a2, o2, 1, by rw [a4, a5, a6, a7]⟩
  | cons x S ih =>
    intro P h H
    rcases x with _ | _ | _ | _ | _ | _ | _ | _ | _ | x
    · obtain ⟨t, Q, q1, q2⟩ := H
      exact ⟨t, Q, q1, ih q2⟩
    · obtain ⟨t, Q, q1, q2⟩ := H
      exact ⟨t, Q, q1, ih q2⟩
    · obtain ⟨t, Q, d2, R2, q1, q2, q3⟩ := H
      injection q2 with q2 q4
      injection q2 with q5 q6
      injection q6 with q6 q7
      injection q7 with q7 q8
      exact ⟨t, Q, 1, R2, q1, by rw [q4, q5, q6, q7], q3⟩
    · obtain ⟨t, Q, d2, R2, q1, q2, q3⟩ := H
      injection q2 with q2 q4
      injection q2 with q5 q6
      injection q6 with q6 q7
      injection q7 with q7 q8
      exact ⟨t, Q, 1, R2, q1, by rw [q4, q5, q6, q7], q3⟩
    · obtain ⟨t, Q, q1, q2⟩ := H
      exact ⟨t, Q, q1, ih q2⟩
    · obtain ⟨d2, R2, q2, q3⟩ := H
      injection q2 with q2 q4
      injection q2 with q5 q6
      injection q6 with q6 q7
      injection q7 with q7 q8
      exact ⟨1, R2, by rw [q4, q5, q6, q7], q3⟩
    · obtain ⟨d2, R2, q2, q3⟩ := H
      injection q2 with q2 q4
      injection q2 with q5 q6
      injection q6 with q6 q7
      injection q7 with q7 q8
      exact ⟨1, R2, by rw [q4, q5, q6, q7], q3⟩
    · obtain ⟨t, Q, d2, d3, R2, q1, q2, q3⟩ := H
      injection q2 with q2 q4
      injection q2 with q5 q6
      injection q6 with q6 q7
      injection q7 with q7 q8
      exact ⟨t, Q, 1, d3, R2, q1, by rw [q4, q5, q6, q7], q3⟩
    · obtain ⟨t, Q, d2, d3, R2, q1, q2, q3⟩ := H
      injection q2 with q2 q4
      injection q2 with q5 q6
      injection q6 with q6 q7
      injection q7 with q7 q8
      exact ⟨t, Q, 1, d3, R2, q1, by rw [q4, q5, q6, q7], q3⟩
    · exact H.elim
def cG (N : Int) (gv tk : Nat → Int) (fc gc g : Int) (S : List Nat) (P : List Int) (bs : List Nat) (C : Int) : Prop :=
  ∃ (l : List ci) (B : List vt) (h : Int), bs = enl l ∧ 8 * (l.length : Int) ≤ C ∧ cr N gv tk fc gc l [(0, g, 0, 0)] 0 B h ∧ cB g S P B h ∧ cp S P l ∧ dl l [] = some (fs S) ∧ iokl l
def cI (N : Int) (gv tk : Nat → Int) (fc gc g : Int) (S : List Nat) (P : List Int) (bs : List Nat) (K D L C : Int) : Prop :=
  cJ S P K D L bs.length ∧ (5 * (bs.length : Int) + 10 * N ≤ C ∧ fr S ≤ 100) ∧ (dm S P ∨ cG N gv tk fc gc g S P bs C)
section CI
variable {N fc gc g : Int} {gv tk : Nat → Int} {S T : List Nat} {P Q : List Int} {bs : List Nat} {K D L C c : Int}
theorem cI_0 (hK : 0 ≤ K) (hN : 0 ≤ N) : cI N gv tk fc gc g [] [] [] K 0 0 (10 * N) :=
  ⟨⟨rfl, hK, rfl, rfl, Int.le_refl _⟩, ⟨by show 5 * (0 : Int) + 10 * N ≤ 10 * N; omega, by show (0 : Int) ≤ 100; omega⟩, Or.inr ⟨[], [(0, g, 0, 0)], 0, rfl, by show 8 * (0 : Int) ≤ 10 * N; omega, ⟨rfl, rfl⟩, ⟨rfl, rfl, 0, 0, rfl⟩, trivial, rfl, trivial⟩⟩
theorem cI_N {N2 : Int} (H : cI N gv tk fc gc g S P bs K D L C) (h : N ≤ N2) : cI N2 gv tk fc gc g S P bs K D L (C + 10 * (N2 - N)) := by
  obtain ⟨a1, a2, a3 | ⟨l, B, h, q1, q2, q3, q4⟩⟩ := H
  · exact ⟨a1, ⟨by omega, a2.2⟩, Or.inl a3⟩
  · exact ⟨a1, ⟨by omega, a2.2⟩, Or.inr ⟨l, B, h, q1, by omega, cr_mono (by assumption) q3, q4⟩⟩
theorem cI_K {K2 : Int} (H : cI N gv tk fc gc g S P bs K D L C) (h : K ≤ K2) : cI N gv tk fc gc g S P bs K2 D L C := ⟨cJ_mono S H.1 h (Int.le_refl _), H.2⟩
/-- instructions M are put, what waits changes -/
theorem cI_app {S2 : List Nat} {P2 : List Int} {M : List ci} {b2 : List Nat} {K2 D2 L2 : Int} (H : cI N gv tk fc gc g S P bs K D L C) (e : b2 = enl M) (h8 : 8 * (M.length : Int) ≤ c) (h5 : 5 * (b2.length : Int) ≤ c)
    (hJ : cJ S P K D L bs.length → cJ S2 P2 K2 D2 L2 (bs.length + b2.length)) (hd : dm S P → dm S2 P2)
    (hM : dm S2 P2 ∨ ∀ B h, cB g S P B h → ∃ B2 h2, cr N gv tk fc gc M B h B2 h2 ∧ cB g S2 P2 B2 h2) (hp : ∀ l, bs = enl l → cp S P l → cp S2 P2 (l ++ M)) (hf : fr S ≤ 100 → fr S2 ≤ 100 ∧ dl M (fs S) = some (fs S2)) (hok : iokl M) :
    cI N gv tk fc gc g S2 P2 (bs ++ b2) K2 D2 L2 (C + c) := by
  obtain ⟨a1, a2, a3⟩ := H
  refine ⟨?_, ⟨by rw [List.length_append]; omega, (hf a2.2).1⟩, ?_⟩
  · rw [List.length_append]
    exact hJ a1
  · rcases hM with hM | hM
    · exact Or.inl hM
    rcases a3 with a3 | ⟨l, B, h, q1, q2, q3, q4, q5, q6, q7⟩
    · exact Or.inl (hd a3)
    · obtain ⟨B2, h2, w1, w2⟩ := hM B h q4
      exact Or.inr ⟨l ++ M, B2, h2, by rw [q1, e, enl_app], by rw [List.length_append]; omega, cr_app q3 w1, w2, hp l q1 q5, dl_app q6 (hf a2.2).2, iokl_app q7 hok⟩
theorem cB_0 {t : Int} {B : List vt} {h : Int} (H : cB g (0 :: S) (t :: P) B h) : cB g S P B (h - ga t) := by
  obtain ⟨t2, Q, e, H⟩ := H
  injection e with e1 e2
  rw [e1, e2]
  exact H
theorem cB_tp1 {t : Int} {B : List vt} {h : Int} (H : cB g (0 :: S) (t :: P) B h) (ht : t ≠ 64) : cB g S P B (h - 1) ∧ tp 1 B h ∧ tp 0 B (h - 1) := by
  have q := cB_0 H
  rw [ga_1 ht] at q
  exact ⟨q, tp_le (tp_up (cB_tp _ q) (k := 1) (by rw [Int.sub_add_cancel]) (by omega)) (by omega), cB_tp _ q⟩
theorem cJ_0 {t b : Int} (H : cJ (0 :: S) (t :: P) K D L b) : ty t ∧ cJ S P K D L b := by
  obtain ⟨t2, Q, e, H⟩ := H
  injection e with e1 e2
  rw [e1, e2]
  exact H
theorem dm_0 {t : Int} (H : dm (0 :: S) (t :: P)) : dm S P := by
  obtain ⟨t2, Q, e, H⟩ := H
  injection e with e1 e2
  rw [e2]
  exact H
theorem cp_0 {t : Int} {l : List ci} (H : cp (0 :: S) (t :: P) l) : cp S P l := by
  obtain ⟨t2, Q, e, H⟩ := H
  injection e with e1 e2
  rw [e2]
  exact H
/-- a constant, a name read: one instruction, a value more -/
theorem cI_val {x : ci} {t : Int} (H : cI N gv tk fc gc g S P bs K D L C) (ht : t = 127 ∨ t = 126) (ho : x.1 = 32 ∨ x.1 = 35 ∨ x.1 = 63 ∨ x.1 = 65 ∨ x.1 = 66) (h1 : x.1 = 32 → 0 ≤ x.2 ∧ x.2 < N) (h2 : x.1 = 35 → 0 ≤ x.2 ∧ x.2 < gc) (h8 : 8 ≤ c) (h5 : 5 * ((en x).length : Int) ≤ c) (hok : iok x) :
    cI N gv tk fc gc g (0 :: S) (t :: P) (bs ++ en x) K D L (C + c) := by
  refine cI_app (M := [x]) H enl_one.symm (by rw [List.length_singleton]; omega) h5 (fun q => ⟨t, P, rfl, by unfold ty; omega, cJ_mono S q (Int.le_refl _) (by omega)⟩) (fun q => ⟨t, P, rfl, q⟩) (Or.inr fun B h q => ?_) (fun l _ q => ⟨t, P, rfl, cp_mono S q⟩) (fun q => ⟨by rw [fr_0]; exact q, dl_1 (by omega)⟩) ⟨hok, trivial⟩
  refine ⟨B, h + 1, cr_one (c1_01 (op := x.1) (v := x.2) (cB_tp S q) ho h1 h2), t, P, rfl, ?_⟩
  rw [ga_1 (by omega), Int.add_sub_cancel]
  exact q
theorem cI_or {t : Int} (H : cI N gv tk fc gc g (0 :: T) (t :: P) bs K D L C) (hF : fr (2 :: T) ≤ 100) : cI N gv tk fc gc g (2 :: T) (t :: P) (bs ++ [4, 127, 65, 1, 5]) K D L (C + 25) := by
  refine cI_app (M := [(4, 127), (65, 1), (5, 0)]) H (by decide) (by simp) (by simp) (fun q => ⟨t, P, rfl, (cJ_0 q).1, cJ_mono T (cJ_0 q).2 (Int.le_refl _) (by omega)⟩) (fun q => ⟨t, P, rfl, Or.inr (dm_0 q)⟩) ?_ (fun l _ q => ⟨t, P, rfl, cp_mono T (cp_0 q)⟩) (fun q => ⟨hF, by have z := fs_len T; have e : fr (2 :: T) = fr T + 1 := rfl; exact dl_p (a := fs T) (Or.inr (Or.inr rfl)) (by omega)⟩) (by simp [iokl, iok, two])
  by_cases q : t = 64
  · exact Or.inl ⟨t, P, rfl, Or.inl q⟩
  refine Or.inr fun B h w => ?_
  obtain ⟨w1, w2, w3⟩ := cB_tp1 w q
  have e : ga 127 = 1 := rfl
  refine ⟨(5, 127, h - 1, 0) :: B, h - 1, cr_cons (c1_if w2 rfl) (cr_cons (c1_01 (tp_in w3.2.1 w3.2.2) (by omega) (fun z => absurd z (by omega)) (fun z => absurd z (by omega))) (cr_one (c1_els (by omega) w3.2.1 w3.2.2))), t, P, 0, B, rfl, rfl, w1⟩
theorem cI_and {t : Int} (H : cI N gv tk fc gc g (0 :: T) (t :: P) bs K D L C) (hF : fr (3 :: T) ≤ 100) : cI N gv tk fc gc g (3 :: T) (t :: P) (bs ++ [4, 127]) K D L (C + 10) := by
  refine cI_app (M := [(4, 127)]) H (by decide) (by simp) (by simp) (fun q => ⟨t, P, rfl, (cJ_0 q).1, cJ_mono T (cJ_0 q).2 (Int.le_refl _) (by omega)⟩) (fun q => ⟨t, P, rfl, Or.inr (dm_0 q)⟩) ?_ (fun l _ q => ⟨t, P, rfl, cp_mono T (cp_0 q)⟩) (fun q => ⟨hF, by have z := fs_len T; have e : fr (3 :: T) = fr T + 1 := rfl; exact dl_p (a := fs T) (Or.inr (Or.inr rfl)) (by omega)⟩) (by simp [iokl, iok, two])
  by_cases q : t = 64
  · exact Or.inl ⟨t, P, rfl, Or.inl q⟩
  refine Or.inr fun B h w => ?_
  obtain ⟨w1, w2, w3⟩ := cB_tp1 w q
  exact ⟨(4, 127, h - 1, 0) :: B, h - 1, cr_one (c1_if w2 rfl), t, P, 0, B, rfl, rfl, w1⟩
theorem cI_or2 {r t : Int} (H : cI N gv tk fc gc g (0 :: 2 :: T) (r :: t :: P) bs K D L C) (hr : r = 127) (ht : t = 127) : cI N gv tk fc gc g (0 :: T) (127 :: P) (bs ++ [65, 0, 71, 11]) K D L (C + 24) := by
  subst hr; subst ht
  refine cI_app (M := [(65, 0), (71, 0), (11, 0)]) H (by decide) (by simp) (by simp) (fun q => ?_) (fun q => ?_) (Or.inr fun B h w => ?_) (fun l _ q => ?_) (fun q => ⟨by have e : fr (0 :: 2 :: T) = fr T + 1 + 0 := rfl; rw [fr_0]; omega, rfl⟩) (by simp [iokl, iok, two])
  · obtain ⟨t2, Q, e, -, q2⟩ := (cJ_0 q).2
    injection e with e1 e2
    exact ⟨127, P, rfl, Or.inl rfl, by rw [e2]; exact cJ_mono T q2 (Int.le_refl _) (by omega)⟩
  · obtain ⟨t2, Q, e, q2⟩ := dm_0 q
    injection e with e1 e2
    exact ⟨127, P, rfl, by rw [e2]; rcases q2 with z | z; (exfalso; omega); exact z⟩
  · obtain ⟨w1, w2, w3⟩ := cB_tp1 w (by decide)
    obtain ⟨t2, Q, d, R, e, e2, w4⟩ := w1
    injection e with e3 e4
    subst e4
    subst e2
    have tR := cB_tp T w4
    have e : ga 127 = 1 := rfl
    refine ⟨R, h, cr_cons (c1_01 (tp_le w2 (by omega)) (by omega) (fun z => absurd z (by omega)) (fun z => absurd z (by omega))) (cr_cons (c1_21 (tp_up w2 (k := 1) rfl (by omega)) (by unfold two; omega)) (cr_one (c1_end (by omega) (by omega) tR.2.1 tR.2.2 (by omega)))), 127, P, rfl, ?_⟩
    rw [e]
    exact w4
  · obtain ⟨t2, Q, e, q2⟩ := cp_0 q
    injection e with e1 e2
    exact ⟨127, P, rfl, by rw [e2]; exact cp_mono T q2⟩
theorem cI_and2 {r t : Int} (H : cI N gv tk fc gc g (0 :: 3 :: T) (r :: t :: P) bs K D L C) (hr : r = 127) (ht : t = 127) : cI N gv tk fc gc g (0 :: T) (127 :: P) (bs ++ [65, 0, 71, 5, 65, 0, 11]) K D L (C + 40) := by
  subst hr; subst ht
  refine cI_app (M := [(65, 0), (71, 0), (5, 0), (65, 0), (11, 0)]) H (by decide) (by simp) (by simp) (fun q => ?_) (fun q => ?_) (Or.inr fun B h w => ?_) (fun l _ q => ?_) (fun q => ⟨by have e : fr (0 :: 3 :: T) = fr T + 1 + 0 := rfl; rw [fr_0]; omega, rfl⟩) (by simp [iokl, iok, two])
  · obtain ⟨t2, Q, e, -, q2⟩ := (cJ_0 q).2
    injection e with e1 e2
    exact ⟨127, P, rfl, Or.inl rfl, by rw [e2]; exact cJ_mono T q2 (Int.le_refl _) (by omega)⟩
  · obtain ⟨t2, Q, e, q2⟩ := dm_0 q
    injection e with e1 e2
    exact ⟨127, P, rfl, by rw [e2]; rcases q2 with z | z; (exfalso; omega); exact z⟩
  · obtain ⟨w1, w2, w3⟩ := cB_tp1 w (by decide)
    obtain ⟨t2, Q, d, R, e, e2, w4⟩ := w1
    injection e with e3 e4
    subst e4
    subst e2
    have tR := cB_tp T w4
    have e : ga 127 = 1 := rfl
    refine ⟨R, h, cr_cons (c1_01 (tp_le w2 (by omega)) (by omega) (fun z => absurd z (by omega)) (fun z => absurd z (by omega))) (cr_cons (c1_21 (tp_up w2 (k := 1) rfl (by omega)) (by unfold two; omega)) (cr_cons (c1_els (by omega) tR.2.1 tR.2.2) (cr_cons (c1_01 (tp_in tR.2.1 tR.2.2) (by omega) (fun z => absurd z (by omega)) (fun z => absurd z (by omega))) (cr_one (c1_end (by omega) (by omega) tR.2.1 tR.2.2 (by omega)))))), 127, P, rfl, ?_⟩
    rw [e]
    exact w4
  · obtain ⟨t2, Q, e, q2⟩ := cp_0 q
    injection e with e1 e2
    exact ⟨127, P, rfl, by rw [e2]; exact cp_mono T q2⟩
theorem cI_two {r t t2 op : Int} (H : cI N gv tk fc gc g (0 :: 0 :: T) (r :: t :: P) bs K D L C) (hr : r ≠ 64) (ht : t ≠ 64) (h2 : t2 = 127 ∨ t2 = 126) (ho : two op) : cI N gv tk fc gc g (0 :: T) (t2 :: P) (bs ++ [op.toNat]) K D L (C + 10) := by
  have ho' := ho
  unfold two at ho'
  refine cI_app (M := [(op, 0)]) H (by rw [enl_one, en_x (by omega)]) (by simp) (by simp) (fun q => ⟨t2, P, rfl, by unfold ty; omega, cJ_mono T (cJ_0 (cJ_0 q).2).2 (Int.le_refl _) (by omega)⟩) (fun q => ⟨t2, P, rfl, dm_0 (dm_0 q)⟩) (Or.inr fun B h w => ?_) (fun l _ q => ⟨t2, P, rfl, cp_mono T (cp_0 (cp_0 q))⟩) (fun q => ⟨by simp only [fr_0] at q ⊢; exact q, dl_1 (a := fs T) (by dsimp only; omega)⟩) ⟨Or.inr (Or.inr (Or.inr (Or.inr (Or.inr ⟨by right; right; right; right; right; right; right; right; right; right; exact ho, rfl⟩)))), trivial⟩
  obtain ⟨w1, w2, w3⟩ := cB_tp1 w hr
  obtain ⟨v1, v2, v3⟩ := cB_tp1 w1 ht
  refine ⟨B, h - 1, cr_one (c1_21 (tp_up v2 (k := 1) (by omega) (by omega)) ho), t2, P, rfl, ?_⟩
  rw [ga_1 (by omega)]
  exact v1
theorem cI_pre (H : cI N gv tk fc gc g S P bs K D L C) : cI N gv tk fc gc g (1 :: S) ((bs.length : Int) :: P) (bs ++ [65, 0]) K D L (C + 10) := by
  refine cI_app (M := [(65, 0)]) H (by decide) (by simp) (by simp) (fun q => ⟨bs.length, P, rfl, ⟨by omega, by simp⟩, q⟩) (fun q => ⟨_, P, rfl, q⟩) (Or.inr fun B h w => ?_) (fun l e q => ⟨_, P, l, [], rfl, rfl, by rw [e], q⟩) (fun q => ⟨by show fr S + 0 ≤ 100; omega, dl_1 (a := fs S) (by decide)⟩) (by simp [iokl, iok, two])
  refine ⟨B, h + 1, cr_one (c1_01 (cB_tp S w) (by omega) (fun z => absurd z (by omega)) (fun z => absurd z (by omega))), _, P, rfl, ?_⟩
  rw [Int.add_sub_cancel]
  exact w
theorem dl_ch {a b : List ci} {ch : Nat} {u w : List Nat} (h : dl (a ++ (65, 0) :: b) u = some w) (hc : ch = 65 ∨ ch = 66) : dl (a ++ ((ch : Int), 0) :: b) u = some w := by
  induction a generalizing u with
  | nil =>
    rw [List.nil_append, dl_go (d1_0 (by dsimp only; omega))]
    exact h
  | cons x a ih =>
    cases e : d1 x u with
    | none =>
      have h : (match d1 x u with | some b' => dl (a ++ (65, 0) :: b) b' | none => none) = some w := h
      rw [e] at h
      cases h
    | some d =>
      rw [List.cons_append, dl_go e] at h
      rw [List.cons_append, dl_go e]
      exact ih h
theorem set_mid {a b : List Nat} {x y : Nat} {n : Nat} (h : a.length = n) : (a ++ x :: b).set n y = a ++ y :: b := by
  subst h
  rw [List.set_append_right _ _ (Nat.le_refl _), Nat.sub_self]
  rfl
/-- a minus in front: its 0 gets its type -/
theorem cI_neg {t p : Int} {ch op : Nat} (H : cI N gv tk fc gc g (0 :: 1 :: T) (t :: p :: P) bs K D L C) (ht : t = 127 ∨ t = 126) (hc : ch = 65 ∨ ch = 66) (ho : op = 107 ∨ op = 125) : cI N gv tk fc gc g (0 :: T) (t :: P) (bs.set p.toNat ch ++ [op]) K D L (C + 10) := by
  obtain ⟨a1, a2, a3⟩ := H
  obtain ⟨p2, Q, e, b1, b2⟩ := (cJ_0 a1).2
  injection e with e1 e2
  subst e1; subst e2
  have e9 : fr (0 :: 1 :: T) = fr (0 :: T) := by show fr T + fw 1 + fw 0 = fr T + fw 0; have : fw 1 = 0 := rfl; omega
  refine ⟨⟨t, P, rfl, by unfold ty; omega, cJ_mono T b2 (Int.le_refl _) (by rw [List.length_append, List.length_set, List.length_singleton]; omega)⟩, ⟨by rw [List.length_append, List.length_set, List.length_singleton]; omega, e9 ▸ a2.2⟩, ?_⟩
  rcases a3 with a3 | ⟨l, B, h, q1, q2, q3, q4, q5, q6, q7⟩
  · obtain ⟨t2, Q2, e, w⟩ := dm_0 a3
    injection e with e3 e4
    exact Or.inl ⟨t, P, rfl, by rw [e4]; exact w⟩
  · obtain ⟨p3, Q3, a, b, e, w2, w3, w4⟩ := cp_0 q5
    injection e with e3 e4
    subst e3; subst e4
    subst w2
    obtain ⟨B1, h1, r1, r2⟩ := cr_split q3
    obtain ⟨B2, h2, r3, r4⟩ := r2
    obtain ⟨v1, v2, v3⟩ := cB_tp1 q4 (by omega)
    obtain ⟨t2, Q2, e, v4⟩ := v1
    injection e with e5 e6
    subst e6
    have tT := cB_tp T v4
    have hpn : (enl a).length = p.toNat := by omega
    have hch : c1 N gv tk fc gc ((ch : Int), 0) B1 h1 B2 h2 := by
      rcases hc with rfl | rfl
      · exact r3
      · exact c1_66 r3
    refine Or.inr ⟨(a ++ ((ch : Int), 0) :: b) ++ [((op : Int), 0)], B, h - 1, ?_, ?_, cr_app (cr_app r1 (cr_cons hch r4)) (cr_one (c1_21 (tp_le (tp_up tT (k := 2) (h2 := h) (by omega) (by omega)) (by omega)) (by unfold two; omega))), ⟨t, P, rfl, by rw [ga_1 (by omega)]; exact v4⟩, ⟨t, P, rfl, ?_⟩, ?_, ?_⟩
    · have x1 : enl (((65 : Int), 0) :: b) = 65 :: (0 :: enl b) := rfl
      have x2 : enl (((ch : Int), 0) :: b) = ch :: (0 :: enl b) := by rcases hc with rfl | rfl <;> rfl
      have x3 : enl [((op : Int), 0)] = [op] := by rcases ho with rfl | rfl <;> rfl
      rw [q1, enl_app, enl_app, enl_app, x1, x2, x3, set_mid hpn]
    · rw [List.length_append, List.length_append, List.length_cons, List.length_singleton]
      rw [List.length_append, List.length_cons] at q2
      omega
    · rw [List.append_assoc]
      exact cp_mono T w4
    · exact dl_app (dl_ch q6 hc) (dl_1 (a := fs (0 :: T)) (by dsimp only; omega))
    · obtain ⟨z1, z2⟩ := iokl_l q7
      exact iokl_app (iokl_app z1 ⟨by rcases hc with rfl | rfl <;> simp [iok, two], z2.2⟩) ⟨by rcases ho with rfl | rfl <;> simp [iok, two], trivial⟩
end CI

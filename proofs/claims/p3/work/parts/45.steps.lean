/-! Steps: what they do to what is open, and what they cost -/
def sS (k : Int32) (g : Nat) (z : Int32) (v : Int64) (c : Int) (S S2 : List Nat) : Prop :=
  0 ≤ k.toInt ∧ match k.toInt.toNat with
  | 0 => (g = 3 ∨ g = 4) ∧ tkT g z.toInt v.toInt ∧ c = 5 + 5 * z.toInt ∧ S2 = 0 :: S
  | 1 => g = 2 ∧ (1 ≤ z.toInt ∧ z.toInt ≤ 20) ∧ c = 10 ∧ S2 = 0 :: S
  | 2 => ∃ T, S = 0 :: T ∧ ((g = 36 ∧ c = 25 ∧ S2 = 2 :: T) ∨ (g = 37 ∧ c = 10 ∧ S2 = 3 :: T))
  | 3 => ∃ T, S2 = 0 :: T ∧ ((g = 36 ∧ c = 24 ∧ S = 0 :: 2 :: T) ∨ (g = 37 ∧ c = 40 ∧ S = 0 :: 3 :: T) ∨ ((38 ≤ g ∧ g < 55) ∧ c = 10 ∧ S = 0 :: 0 :: T))
  | 4 => c = 10 ∧ S2 = 1 :: S
  | 5 => ∃ T, S2 = 0 :: T ∧ ((g = 51 ∧ c = 10 ∧ S = 0 :: 1 :: T) ∨ ((g = 34 ∨ g = 35) ∧ c = 16 ∧ S = 0 :: T))
  | 6 => (g = 14 ∨ g = 15) ∧ c = 10 ∧ ∃ T, S = 0 :: T ∧ S2 = 0 :: T
  | 7 => ∃ (T : List Nat) (n : Nat), v.toInt = n ∧ (n : Int) ≤ 8 ∧ S = List.replicate n 0 ++ T ∧ S2 = 0 :: T ∧ ((g = 2 ∧ (1 ≤ z.toInt ∧ z.toInt ≤ 20) ∧ c = 10) ∨ ((17 ≤ g ∧ g ≤ 25) ∧ c = 15))
  | 8 => (g = 14 ∨ g = 15) ∧ (1 ≤ z.toInt ∧ z.toInt ≤ 20) ∧ (0 ≤ v.toInt ∧ v.toInt ≤ 2000) ∧ c = 20 ∧ S = 0 :: S2
  | 9 => g = 2 ∧ (1 ≤ z.toInt ∧ z.toInt ≤ 20) ∧ c = 10 ∧ S = 0 :: S2
  | 10 => c = 10 ∧ S = 0 :: S2
  | 11 => c = 10 ∧ ((v = 0 ∧ S = S2) ∨ (v ≠ 0 ∧ S = 0 :: S2))
  | 12 => (g = 11 ∨ g = 12) ∧ c = 10 ∧ S = S2
  | 13 => c = 10 ∧ ∃ T, S = 0 :: T ∧ S2 = 5 :: T
  | 14 => c = 10 ∧ ∃ T, S = 5 :: T ∧ S2 = 6 :: T
  | 15 => c = 10 ∧ (S = 5 :: S2 ∨ S = 6 :: S2)
  | 16 => c = 20 ∧ S2 = 7 :: S
  | 17 => c = 16 ∧ ∃ T, S = 0 :: 7 :: T ∧ S2 = 8 :: T
  | 18 => c = 24 ∧ S = 8 :: S2
  | 19 => c = 10 ∧ S2 = 4 :: S
  | 20 => c = 10 ∧ S = 4 :: S2
  | _ => False
theorem sS_cost {k : Int32} {g : Nat} {z : Int32} {v : Int64} {c : Int} {S S2 : List Nat} (h : sS k g z v c S S2) : 10 ≤ c := by
  unfold sS at h
  have h := h.2
  split at h
  · have := h.2.1.1 (by omega) (by omega)
    omega
  · omega
  · obtain ⟨T, -, h⟩ := h; omega
  · obtain ⟨T, -, h⟩ := h; omega
  · omega
  · obtain ⟨T, -, h⟩ := h; omega
  · omega
  · obtain ⟨T, n, -, -, -, -, h⟩ := h; omega
  all_goals first | omega | exact h.elim
/-- what an item opens; how many blocks are open; how many may be -/
def fw (x : Nat) : Int := if x = 2 ∨ x = 3 ∨ x = 5 ∨ x = 6 then 1 else if x = 7 ∨ x = 8 then 2 else 0
def fr : List Nat → Int
  | [] => 0
  | x :: S => fr S + fw x
def ph (B : Int) : Int := 2 * ((B + 8) / 16) + 2
def ls (B : Int) (S : List Nat) : Prop := (S.length : Int) ≤ B ∧ fr S ≤ ph B
def lm (S : List Nat) : Prop := S.length ≤ 680 ∧ fr S ≤ 100
theorem fw_b (x : Nat) : 0 ≤ fw x ∧ fw x ≤ 2 := by
  unfold fw
  split
  · omega
  · split <;> omega
theorem ls_s {B B2 : Int} {S : List Nat} (q : ls B S) (h : B ≤ B2) : ls B2 S := ⟨by have := q.1; omega, by have := q.2; unfold ph at *; omega⟩
theorem ls_c {B B2 : Int} {S : List Nat} {x : Nat} (q : ls B S) (h : B + 1 ≤ B2) (hf : ph B + fw x ≤ ph B2) : ls B2 (x :: S) := ⟨by have := q.1; rw [List.length_cons]; omega, by have := q.2; show fr S + fw x ≤ _; omega⟩
theorem lm_s {B : Int} {S : List Nat} (q : ls B S) (h : B ≤ 680) : lm S := ⟨by have := q.1; omega, by have := q.2; unfold ph at *; omega⟩
theorem lm_c {B : Int} {S : List Nat} {x : Nat} (q : ls B S) (h : B + 1 ≤ 680) : lm (x :: S) := ⟨by have := q.1; rw [List.length_cons]; omega, by have := q.2; have := fw_b x; show fr S + fw x ≤ _; unfold ph at *; omega⟩
theorem fr_rep {S : List Nat} : ∀ n, fr (List.replicate n 0 ++ S) = fr S := by
  intro n
  induction n with
  | zero => rfl
  | succ n ih =>
    have : fr (List.replicate (n + 1) 0 ++ S) = fr (List.replicate n 0 ++ S) + fw 0 := rfl
    have z : fw 0 = 0 := rfl
    omega
theorem ls_rep {B B2 : Int} {S : List Nat} {n : Nat} (q : ls B S) (h : B + n ≤ B2) : ls B2 (List.replicate n 0 ++ S) := ⟨by have := q.1; rw [List.length_append, List.length_replicate]; omega, by have := q.2; rw [fr_rep]; unfold ph at *; omega⟩
def sT : List pS → Int → List Nat → List Nat → Prop
  | [], c, S, S2 => c = 0 ∧ S2 = S
  | x :: L, c, S, S2 => ∃ (g : Nat) (c1 : Int) (S1 : List Nat), x.2.1 = some g ∧ g < 55 ∧ sS x.1 g x.2.2.2.1 x.2.2.2.2 c1 S S1 ∧ lm S1 ∧ sT L (c - c1) S1 S2
theorem sT_nil {S : List Nat} : sT [] 0 S S := ⟨rfl, rfl⟩
theorem sT_one {k : Int32} {g : Nat} {p z : Int32} {v : Int64} {c : Int} {S S1 : List Nat} (h : sS k g z v c S S1) (hl : lm S1) (hg : g < 55) : sT [(k, some g, p, z, v)] c S S1 := ⟨g, c, S1, rfl, hg, h, hl, by omega, rfl⟩
theorem sT_app {L2 : List pS} {c2 : Int} {S1 S2 : List Nat} (h2 : sT L2 c2 S1 S2) : ∀ {L1 : List pS} {c1 : Int} {S : List Nat}, sT L1 c1 S S1 → sT (L1 ++ L2) (c1 + c2) S S2 := by
  intro L1
  induction L1 with
  | nil =>
    intro c1 S h
    obtain ⟨rfl, rfl⟩ := h
    rw [Int.zero_add]
    exact h2
  | cons x L ih =>
    intro c1 S h
    obtain ⟨g, c, S3, a1, a0, a2, a3, a4⟩ := h
    refine ⟨g, c, S3, a1, a0, a2, a3, ?_⟩
    have q := ih a4
    rwa [show c1 - c + c2 = c1 + c2 - c by omega] at q
theorem sT_cost : ∀ {L : List pS} {c : Int} {S S2 : List Nat}, sT L c S S2 → 10 * (L.length : Int) ≤ c := by
  intro L
  induction L with
  | nil =>
    intro c S S2 h
    obtain ⟨rfl, -⟩ := h
    exact Int.le_refl _
  | cons x L ih =>
    intro c S S2 h
    obtain ⟨g, c1, S3, a1, -, a2, a3, a4⟩ := h
    have q := ih a4
    have r := sS_cost a2
    rw [List.length_cons]
    omega
/-- the steps l are made longer to l2: what was open, S, becomes f S; at most d -/
def pX (B : Int) (f : List Nat → List Nat) (l l2 : List pS) (d : Int) : Prop := ∃ L c, l2 = l ++ L ∧ 10 * (L.length : Int) ≤ c ∧ c ≤ d ∧ ∀ S : List Nat, ls B S → sT L c S (f S)
theorem pX_nil {B : Int} {l : List pS} : pX B (fun S => S) l l 0 := ⟨[], 0, by simp, by simp, Int.le_refl _, fun _ _ => sT_nil⟩
theorem pX_mono {B B2 d d2 : Int} {f : List Nat → List Nat} {l l2 : List pS} (h : pX B f l l2 d) (hB : B2 ≤ B) (hd : d ≤ d2) : pX B2 f l l2 d2 := by
  obtain ⟨L, c, h1, h2, h3, h4⟩ := h
  exact ⟨L, c, h1, h2, by omega, fun S q => h4 S (ls_s q hB)⟩
theorem pX_comp {B B2 d d2 : Int} {f g : List Nat → List Nat} {l l1 l2 : List pS} (h : pX B f l l1 d) (h2 : pX B2 g l1 l2 d2) (hB : ∀ S : List Nat, ls B S → ls B2 (f S)) : pX B (fun S => g (f S)) l l2 (d + d2) := by
  obtain ⟨L, c, a1, a2, a3, a4⟩ := h
  obtain ⟨L2, c2, b1, b2, b3, b4⟩ := h2
  refine ⟨L ++ L2, c + c2, by rw [b1, a1, List.append_assoc], by rw [List.length_append]; omega, by omega, fun S q => sT_app (b4 (f S) (hB S q)) (a4 S q)⟩
theorem pX_step {B d c : Int} {f g : List Nat → List Nat} {l l1 l2 : List pS} {k : Int32} {ge : Nat} {p z : Int32} {v : Int64} (h : pX B f l l1 d) (e : l2 = l1 ++ [(k, some ge, p, z, v)]) (hs : ∀ S : List Nat, ls B S → sS k ge z v c (f S) (g S) ∧ lm (g S)) (hc : 10 ≤ c) (hge : ge < 55 := by omega) : pX B g l l2 (d + c) := by
  obtain ⟨L, c0, a1, a2, a3, a4⟩ := h
  refine ⟨L ++ [(k, some ge, p, z, v)], c0 + c, by rw [e, a1, List.append_assoc], ?_, by omega, fun S q => sT_app (sT_one (hs S q).1 (hs S q).2 hge) (a4 S q)⟩
  rw [List.length_append, List.length_singleton]
  omega
theorem pX_len {B d : Int} {f : List Nat → List Nat} {l l2 : List pS} (h : pX B f l l2 d) : 10 * ((l2.length : Int) - l.length) ≤ d := by
  obtain ⟨L, c0, a1, a2, a3, a4⟩ := h
  rw [a1, List.length_append]
  omega
theorem pX_n {B d : Int} {f : List Nat → List Nat} {K K2 : Nat → Int32} {G G2 : Nat → Option Nat} {Pp P2 Z Z2 : Nat → Int32} {V V2 : Nat → Int64} {n n2 : Int} (h : pX B f (sl K G Pp Z V n) (sl K2 G2 P2 Z2 V2 n2) d) (h0 : 0 ≤ n) (h2 : 0 ≤ n2) : 10 * (n2 - n) ≤ d := by
  have q := pX_len h
  rw [sl_len, sl_len] at q
  omega
/-- signs that wait, below a count, are left as they were -/
def wk (n : Int) (a b : Nat → Option Nat) : Prop := ∀ j : Nat, (j : Int) < n → b j = a j
theorem wk_refl {n : Int} {a : Nat → Option Nat} : wk n a a := fun _ _ => rfl
theorem wk_tr {n m : Int} {a b c : Nat → Option Nat} (h : wk n a b) (h2 : wk m b c) (e : n ≤ m) : wk n a c := fun j q => (h2 j (by omega)).trans (h j q)
theorem wk_le {n m : Int} {a b : Nat → Option Nat} (h : wk m a b) (e : n ≤ m) : wk n a b := fun j q => h j (by omega)
theorem wk_up {n : Int} {i : Int32} {a b : Nat → Option Nat} {x : Option Nat} (e : b = va_up a i.toNatClampNeg x) (h0 : n ≤ i.toInt) (h1 : 0 ≤ i.toInt) : wk n a b := by
  subst e
  have c := i32_clamp (x := i) h1
  exact fun j q => va_un (by omega)

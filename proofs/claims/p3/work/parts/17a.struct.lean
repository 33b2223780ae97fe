/-! how the reader's tables hang together: sb i is the stack of the blocks that are open at instruction i -/
def rs_stk (go : Nat → Int32) : Nat → List Nat
  | 0 => []
  | k + 1 => (go k).toNatClampNeg :: rs_stk go k
theorem rs_stk_upd {go : Nat → Int32} {v : Int32} (m : Nat) : ∀ k : Nat, k ≤ m → rs_stk (upd go m v) k = rs_stk go k
  | 0, _ => rfl
  | k + 1, h => by
    have e : k ≠ m := by omega
    show (upd go m v k).toNatClampNeg :: rs_stk (upd go m v) k = (go k).toNatClampNeg :: rs_stk go k
    rw [pk_un e, rs_stk_upd m k (by omega)]
def rs_val (gop gpt : Nat → Int32) (gva : Nat → Int64) (lc : Int) (i : Nat) : Prop :=
  ((gop i).toInt = 2 ∨ (gop i).toInt = 3 ∨ (gop i).toInt = 4 → (gva i).toInt = 64 ∨ (gva i).toInt = 127 ∨ (gva i).toInt = 126) ∧
  ((gop i).toInt = 12 ∨ (gop i).toInt = 13 ∨ (gop i).toInt = 16 ∨ (gop i).toInt = 32 ∨ (gop i).toInt = 33 ∨ (gop i).toInt = 34 ∨ (gop i).toInt = 35 ∨ (gop i).toInt = 36 → 0 ≤ (gva i).toInt ∧ (gva i).toInt ≤ 2147483647) ∧
  ((gop i).toInt = 14 → 0 ≤ (gva i).toInt ∧ 0 ≤ (gpt i).toInt ∧ (gva i).toInt + (gpt i).toInt < lc) ∧
  ((gop i).toInt = 2 ∨ (gop i).toInt = 3 ∨ (gop i).toInt = 4 ∨ (gop i).toInt = 5 ∨ (gop i).toInt = 11 ∨ (gop i).toInt = 12 ∨ (gop i).toInt = 13 ∨ (gop i).toInt = 16 ∨ (gop i).toInt = 32 ∨ (gop i).toInt = 33 ∨ (gop i).toInt = 34 ∨ (gop i).toInt = 35 ∨ (gop i).toInt = 36 ∨ (gop i).toInt = 14 ∨ (gop i).toInt = 63 ∨ (gop i).toInt = 64 ∨ (gop i).toInt = 0 ∨ (gop i).toInt = 1 ∨ (gop i).toInt = 15 ∨ (gop i).toInt = 26 ∨ (gop i).toInt = 27 ∨ (69 ≤ (gop i).toInt ∧ (gop i).toInt ≤ 90) ∨ (103 ≤ (gop i).toInt ∧ (gop i).toInt ≤ 138) ∨ (gop i).toInt = 167 ∨ (gop i).toInt = 172 ∨ (gop i).toInt = 173 ∨ (gop i).toInt = 65 ∨ (gop i).toInt = 66 ∨ (gop i).toInt = 44 ∨ (gop i).toInt = 45 ∨ (gop i).toInt = 58 ∨ (gop i).toInt = 40 ∨ (gop i).toInt = 54 ∨ (gop i).toInt = 41 ∨ (gop i).toInt = 55)
/-- from instruction a to n: all ends have a block -/
def rs_at (gop gpt gel : Nat → Int32) (gva : Nat → Int64) (lc : Int) (sb : Nat → List Nat) (n i : Nat) : Prop :=
  rs_val gop gpt gva lc i ∧
    ((gop i).toInt = 2 ∨ (gop i).toInt = 3 ∨ (gop i).toInt = 4 → sb (i + 1) = i :: sb i) ∧
    ((gop i).toInt = 4 → (gel i).toInt < 0 ∨ ∃ e : Nat, (gel i).toInt = e ∧ i < e ∧ e < n ∧ (gop e).toInt = 5 ∧ ∃ r, sb e = i :: r) ∧
    ((gop i).toInt = 5 → ∃ b r, sb i = b :: r ∧ (gop b).toInt = 4 ∧ (gel b).toInt = i) ∧
    ((gop i).toInt = 11 → ∃ b r, sb i = b :: r ∧ sb (i + 1) = r ∧ b ∉ sb n ∧ (gpt b).toInt = i ∧ (0 ≤ (gel b).toInt → (gpt (gel b).toNatClampNeg).toInt = i)) ∧
    ((gop i).toInt ≠ 2 → (gop i).toInt ≠ 3 → (gop i).toInt ≠ 4 → (gop i).toInt ≠ 11 → sb (i + 1) = sb i) ∧
    ((gop i).toInt ≠ 4 → (gel i).toInt < 0)
def rs_I (a n : Nat) (gop gpt gel : Nat → Int32) (gva : Nat → Int64) (lc : Int) (sb : Nat → List Nat) : Prop :=
  a ≤ n ∧ sb a = [] ∧
  (∀ i, a ≤ i → i ≤ n → (∀ b ∈ sb i, a ≤ b ∧ b < i ∧ ((gop b).toInt = 2 ∨ (gop b).toInt = 3 ∨ (gop b).toInt = 4)) ∧ (sb i).Pairwise (fun x y => y < x) ∧ (sb i).length ≤ 100) ∧
  (∀ i, a ≤ i → i < n → rs_at gop gpt gel gva lc sb n i)
section RS
variable {a n : Nat} {gop gpt gel gop2 gpt2 gel2 : Nat → Int32} {gva gva2 : Nat → Int64} {lc lc2 : Int} {sb : Nat → List Nat}
theorem rs_start : rs_I a a gop gpt gel gva lc (fun _ => []) :=
  ⟨Nat.le_refl _, rfl, fun i _ _ => ⟨fun b hb => by simp at hb, List.Pairwise.nil, by simp⟩, fun i h1 h2 => absurd h2 (by omega)⟩
theorem rs_els (h : rs_I a n gop gpt gel gva lc sb) {b : Nat} (h1 : a ≤ b) (h2 : b < n) (h3 : 0 ≤ (gel b).toInt) : (gop b).toInt = 4 ∧ b < (gel b).toNatClampNeg ∧ (gel b).toNatClampNeg < n ∧ (gop (gel b).toNatClampNeg).toInt = 5 ∧ ∃ r, sb (gel b).toNatClampNeg = b :: r := by
  obtain ⟨-, -, v3, -, -, -, v7⟩ := h.2.2.2 b h1 h2
  by_cases q : (gop b).toInt = 4
  · rcases v3 q with y | ⟨e, y1, y2, y3, y4, y5⟩
    · omega
    · rw [i32_nat y1]
      exact ⟨q, y2, y3, y4, y5⟩
  · exact absurd (v7 q) (by omega)
/-- other tables that say the same up to n -/
theorem rs_ext (h : rs_I a n gop gpt gel gva lc sb) (hlc : lc ≤ lc2) (e1 : ∀ j, j < n → gop2 j = gop j) (e2 : ∀ j, j < n → gpt2 j = gpt j) (e3 : ∀ j, j < n → gel2 j = gel j) (e4 : ∀ j, j < n → gva2 j = gva j) : rs_I a n gop2 gpt2 gel2 gva2 lc2 sb := by
  have h0 := h
  obtain ⟨ha, hs, hS, hI⟩ := h
  refine ⟨ha, hs, fun i hi hi2 => ?_, fun i hi q => ?_⟩
  · obtain ⟨k1, k2, k3⟩ := hS i hi hi2
    refine ⟨fun b hb => ?_, k2, k3⟩
    obtain ⟨q1, q2, q3⟩ := k1 b hb
    rw [e1 b (by omega)]
    exact ⟨q1, q2, q3⟩
  · obtain ⟨v1, v2, v3, v4, v5, v6, v7⟩ := hI i hi q
    unfold rs_val at v1
    unfold rs_at rs_val
    rw [e1 i q, e2 i q, e3 i q, e4 i q]
    refine ⟨⟨v1.1, v1.2.1, fun z => ?_, v1.2.2.2⟩, v2, fun z => ?_, fun z => ?_, fun z => ?_, v6, v7⟩
    · obtain ⟨y1, y2, y3⟩ := v1.2.2.1 z
      exact ⟨y1, y2, by omega⟩
    · rcases v3 z with y | ⟨e, y1, y2, y3, y4, y5⟩
      · exact Or.inl y
      · exact Or.inr ⟨e, y1, y2, y3, by rw [e1 e y3]; exact y4, y5⟩
    · obtain ⟨b, r, y1, y2, y3⟩ := v4 z
      have hb := ((hS i hi (by omega)).1 b (by rw [y1]; exact List.mem_cons_self)).2.1
      exact ⟨b, r, y1, by rw [e1 b (by omega)]; exact y2, by rw [e3 b (by omega)]; exact y3⟩
    · obtain ⟨b, r, y1, y2, y3, y4, y5⟩ := v5 z
      obtain ⟨hb0, hb, -⟩ := (hS i hi (by omega)).1 b (by rw [y1]; exact List.mem_cons_self)
      refine ⟨b, r, y1, y2, y3, by rw [e2 b (by omega)]; exact y4, fun z1 => ?_⟩
      rw [e3 b (by omega)] at z1 ⊢
      rw [e2 _ (rs_els h0 hb0 (by omega) z1).2.2.1]
      exact y5 z1
/-- what stays when one more instruction is seen -/
theorem rs_keep (h : rs_I a n gop gpt gel gva lc sb) {top : List Nat} (ht : ∀ b ∈ top, b = n ∨ b ∈ sb n) {i : Nat} (hi : a ≤ i) (q : i < n) : rs_at gop gpt gel gva lc (fun i => if i ≤ n then sb i else top) (n + 1) i := by
  obtain ⟨ha, hs, hS, hI⟩ := h
  obtain ⟨v1, v2, v3, v4, v5, v6, v7⟩ := hI i hi q
  have s1 : ∀ i, i ≤ n → (fun i => if i ≤ n then sb i else top) i = sb i := fun i hi => if_pos hi
  have s2 : (fun i => if i ≤ n then sb i else top) (n + 1) = top := if_neg (by omega)
  unfold rs_at
  rw [s1 i (by omega), s1 (i + 1) (by omega), s2]
  refine ⟨v1, v2, fun z => ?_, v4, fun z => ?_, v6, v7⟩
  · rcases v3 z with y | ⟨e, y1, y2, y3, y4, r, y5⟩
    · exact Or.inl y
    · exact Or.inr ⟨e, y1, y2, by omega, y4, r, by rw [s1 e (by omega)]; exact y5⟩
  · obtain ⟨b, r, y1, y2, y3, y4, y5⟩ := v5 z
    have hb := ((hS i hi (by omega)).1 b (by rw [y1]; exact List.mem_cons_self)).2.1
    refine ⟨b, r, y1, y2, fun hm => ?_, y4, y5⟩
    rcases ht b hm with w | w
    · omega
    · exact y3 w
/-- one more instruction that turns and closes nothing -/
theorem rs_add (h : rs_I a n gop gpt gel gva lc sb) (hv : rs_val gop gpt gva lc n) (h5 : (gop n).toInt ≠ 5) (h11 : (gop n).toInt ≠ 11) (he : (gel n).toInt < 0) (ho : (gop n).toInt = 2 ∨ (gop n).toInt = 3 ∨ (gop n).toInt = 4 → (sb n).length < 100) :
    ∃ sb2, rs_I a (n + 1) gop gpt gel gva lc sb2 ∧ sb2 (n + 1) = if (gop n).toInt = 2 ∨ (gop n).toInt = 3 ∨ (gop n).toInt = 4 then n :: sb n else sb n := by
  have h0 := h
  obtain ⟨ha, hs, hS, hI⟩ := h
  obtain ⟨top, htop⟩ : ∃ z, z = (if (gop n).toInt = 2 ∨ (gop n).toInt = 3 ∨ (gop n).toInt = 4 then n :: sb n else sb n) := ⟨_, rfl⟩
  have s1 : ∀ i, i ≤ n → (fun i => if i ≤ n then sb i else top) i = sb i := fun i hi => if_pos hi
  have s2 : (fun i => if i ≤ n then sb i else top) (n + 1) = top := if_neg (by omega)
  obtain ⟨k1, k2, k3⟩ := hS n ha (Nat.le_refl _)
  have hin : ∀ b ∈ top, b = n ∨ b ∈ sb n := by
    intro b hb
    rw [htop] at hb
    split at hb
    · exact List.mem_cons.mp hb
    · exact Or.inr hb
  refine ⟨fun i => if i ≤ n then sb i else top, ⟨by omega, by rw [s1 a ha]; exact hs, fun i hi hi2 => ?_, fun i hi hi2 => ?_⟩, by rw [s2, htop]⟩
  · by_cases q : i ≤ n
    · rw [s1 i q]
      exact hS i hi q
    · have e : i = n + 1 := by omega
      rw [e, s2]
      refine ⟨fun b hb => ?_, ?_, ?_⟩
      · by_cases q9 : b ∈ sb n
        · obtain ⟨q1, q2, q3⟩ := k1 b q9
          exact ⟨q1, by omega, q3⟩
        · have e9 : b = n := (hin b hb).resolve_right q9
          subst e9
          refine ⟨ha, by omega, ?_⟩
          rw [htop] at hb
          split at hb
          · rename_i q
            exact q
          · exact absurd hb q9
      · rw [htop]
        split
        · exact List.pairwise_cons.mpr ⟨fun b hb => (k1 b hb).2.1, k2⟩
        · exact k2
      · rw [htop]
        split
        · rename_i q9
          have := ho q9
          rw [List.length_cons]
          omega
        · exact k3
  · by_cases q : i < n
    · exact rs_keep h0 hin hi q
    · have e : i = n := by omega
      subst e
      unfold rs_at
      rw [s1 i (by omega), s2]
      exact ⟨hv, fun z => by rw [htop, if_pos z], fun z => Or.inl he, fun z => absurd z h5, fun z => absurd z h11, fun z1 z2 z3 z4 => by rw [htop, if_neg (by omega)], fun _ => he⟩
/-- an else -/
theorem rs_else {b : Nat} {r : List Nat} {v : Int32} (h : rs_I a n gop gpt gel gva lc sb) (hv : rs_val gop gpt gva lc n) (h5 : (gop n).toInt = 5) (he : (gel n).toInt < 0) (hb : sb n = b :: r) (hb4 : (gop b).toInt = 4) (hbe : (gel b).toInt < 0) (hvn : v.toInt = n) :
    ∃ sb2, rs_I a (n + 1) gop gpt (upd gel b v) gva lc sb2 ∧ sb2 (n + 1) = sb n := by
  have h0 := h
  obtain ⟨ha, hs, hS, hI⟩ := h
  have s1 : ∀ i, i ≤ n → (fun i => if i ≤ n then sb i else sb n) i = sb i := fun i hi => if_pos hi
  have s2 : (fun i => if i ≤ n then sb i else sb n) (n + 1) = sb n := if_neg (by omega)
  obtain ⟨k1, k2, k3⟩ := hS n ha (Nat.le_refl _)
  obtain ⟨b1, b2, -⟩ := k1 b (by rw [hb]; exact List.mem_cons_self)
  refine ⟨fun i => if i ≤ n then sb i else sb n, ⟨by omega, by rw [s1 a ha]; exact hs, fun i hi hi2 => ?_, fun i hi hi2 => ?_⟩, s2⟩
  · by_cases q : i ≤ n
    · rw [s1 i q]
      exact hS i hi q
    · have e : i = n + 1 := by omega
      rw [e, s2]
      exact ⟨fun c hc => ⟨(k1 c hc).1, by have := (k1 c hc).2.1; omega, (k1 c hc).2.2⟩, k2, k3⟩
  · by_cases q : i < n
    · obtain ⟨v1, v2, v3, v4, v5, v6, v7⟩ := rs_keep h0 (top := sb n) (fun c hc => Or.inr hc) hi q
      refine ⟨v1, v2, fun z => ?_, fun z => ?_, fun z => ?_, v6, fun z => ?_⟩
      · by_cases e : i = b
        · subst e
          rw [pk_us]
          exact Or.inr ⟨n, hvn, b2, by omega, h5, r, by rw [s1 n (Nat.le_refl _)]; exact hb⟩
        · rw [pk_un e]
          exact v3 z
      · obtain ⟨c, r', y1, y2, y3⟩ := v4 z
        have e : c ≠ b := fun e => by rw [e] at y3; omega
        exact ⟨c, r', y1, y2, by rw [pk_un e]; exact y3⟩
      · obtain ⟨c, r', y1, y2, y3, y4, y5⟩ := v5 z
        have e : c ≠ b := fun e => y3 (by rw [s2, e, hb]; exact List.mem_cons_self)
        exact ⟨c, r', y1, y2, y3, y4, by rw [pk_un e]; exact y5⟩
      · have e : i ≠ b := fun e => z (by rw [e]; exact hb4)
        rw [pk_un e]
        exact v7 z
    · have e : i = n := by omega
      subst e
      have e9 : i ≠ b := by omega
      unfold rs_at
      rw [s1 i (by omega), s2, pk_un e9]
      exact ⟨hv, fun z => absurd z (by omega), fun z => absurd z (by omega), fun _ => ⟨b, r, hb, hb4, by rw [pk_us]; exact hvn⟩, fun z => absurd z (by omega), fun _ _ _ _ => rfl, fun _ => he⟩
/-- an end of a block -/
theorem rs_end {b : Nat} {r : List Nat} (h : rs_I a n gop gpt gel gva lc sb) (hv : rs_val gop gpt gva lc n) (h11 : (gop n).toInt = 11) (he : (gel n).toInt < 0) (hb : sb n = b :: r) (p1 : (gpt2 b).toInt = n) (p2 : 0 ≤ (gel b).toInt → (gpt2 (gel b).toNatClampNeg).toInt = n) (p3 : ∀ j, j ≠ b → (0 ≤ (gel b).toInt → j ≠ (gel b).toNatClampNeg) → gpt2 j = gpt j) :
    ∃ sb2, rs_I a (n + 1) gop gpt2 gel gva lc sb2 ∧ sb2 (n + 1) = r := by
  have h0 := h
  obtain ⟨ha, hs, hS, hI⟩ := h
  have s1 : ∀ i, i ≤ n → (fun i => if i ≤ n then sb i else r) i = sb i := fun i hi => if_pos hi
  have s2 : (fun i => if i ≤ n then sb i else r) (n + 1) = r := if_neg (by omega)
  obtain ⟨k1, k2, k3⟩ := hS n ha (Nat.le_refl _)
  obtain ⟨b1, b2, b3⟩ := k1 b (by rw [hb]; exact List.mem_cons_self)
  rw [hb] at k1 k2 k3
  have hr : ∀ c ∈ r, c ∈ sb n := fun c hc => by rw [hb]; exact List.mem_cons_of_mem _ hc
  have hel : 0 ≤ (gel b).toInt → (gop (gel b).toNatClampNeg).toInt = 5 ∧ ∃ r', sb (gel b).toNatClampNeg = b :: r' := fun z => ⟨(rs_els h0 b1 b2 z).2.2.2.1, (rs_els h0 b1 b2 z).2.2.2.2⟩
  have pk : ∀ j, j ≠ b → (gop j).toInt ≠ 5 → gpt2 j = gpt j := fun j q1 q2 => p3 j q1 (fun z e => q2 (by rw [e]; exact (hel z).1))
  refine ⟨fun i => if i ≤ n then sb i else r, ⟨by omega, by rw [s1 a ha]; exact hs, fun i hi hi2 => ?_, fun i hi hi2 => ?_⟩, s2⟩
  · by_cases q : i ≤ n
    · rw [s1 i q]
      exact hS i hi q
    · have e : i = n + 1 := by omega
      rw [e, s2]
      refine ⟨fun c hc => ?_, (List.pairwise_cons.mp k2).2, by rw [List.length_cons] at k3; omega⟩
      obtain ⟨q1, q2, q3⟩ := k1 c (List.mem_cons_of_mem _ hc)
      exact ⟨q1, by omega, q3⟩
  · by_cases q : i < n
    · obtain ⟨v1, v2, v3, v4, v5, v6, v7⟩ := rs_keep h0 (top := r) (fun c hc => Or.inr (hr c hc)) hi q
      unfold rs_val at v1
      refine ⟨⟨v1.1, v1.2.1, fun z => ?_, v1.2.2.2⟩, v2, v3, v4, fun z => ?_, v6, v7⟩
      · rw [pk i (fun e => by clear v1 v2 v3 v4 v5 v6 v7; rw [e] at z; omega) (by clear v1 v2 v3 v4 v5 v6 v7; omega)]
        exact v1.2.2.1 z
      · obtain ⟨c, r', y1, y2, y3, y4, y5⟩ := (hI i hi q).2.2.2.2.1 z
        have e : c ≠ b := fun e => y3 (by rw [e, hb]; exact List.mem_cons_self)
        obtain ⟨c1, c2, c3⟩ := (hS i hi (by omega)).1 c (by rw [y1]; exact List.mem_cons_self)
        refine ⟨c, r', by rw [s1 i (by omega)]; exact y1, by rw [s1 (i + 1) (by omega)]; exact y2, fun hm => y3 (hr c (by rw [s2] at hm; exact hm)), by rw [pk c e (by omega)]; exact y4, fun z1 => ?_⟩
        obtain ⟨w1, w2, w3, w4, r9, w5⟩ := rs_els h0 c1 (by omega) z1
        rw [p3 _ (fun e9 => by clear v1 v2 v3 v4 v5 v6 v7 hel; rw [e9] at w4; omega) (fun z2 e9 => by
          obtain ⟨-, r8, w6⟩ := hel z2
          rw [e9, w6] at w5
          exact e (List.cons.inj w5).1.symm)]
        exact y5 z1
    · have e : i = n := by omega
      subst e
      unfold rs_val at hv
      unfold rs_at rs_val
      rw [s1 i (by omega), s2, pk i (by omega) (by omega)]
      exact ⟨hv, fun z => absurd z (by omega), fun z => absurd z (by omega), fun z => absurd z (by omega), fun _ => ⟨b, r, hb, rfl, fun hm => absurd ((List.pairwise_cons.mp k2).1 b hm) (by omega), p1, p2⟩, fun _ _ _ z => absurd h11 z, fun _ => he⟩
end RS

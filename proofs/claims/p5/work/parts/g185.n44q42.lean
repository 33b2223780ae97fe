/-! p5: the reference: what stands behind an instruction -/
section ZQ
variable {f : Nat → Int32} {L a : Nat} {b : Int}
theorem zQ_1 (h0 : 0 ≤ b) (h : b = 12 ∨ b = 13 ∨ b = 16 ∨ b = 32 ∨ b = 33 ∨ b = 34 ∨ b = 35 ∨ b = 36) : zQ f L b.toNat a = (match zM f L 2147483647 a with | some (v, c) => some ((v, []), c) | none => none) := by
  unfold zQ
  rw [if_pos ((zidx_i h0).mpr h)]
  rfl
theorem zQ_2 (h : b = 14) : zQ f L b.toNat a = zTb f L a := by
  subst h
  rfl
theorem zQ_3 (h0 : 0 ≤ b) (h : b = 44 ∨ b = 45 ∨ b = 58 ∨ b = 40 ∨ b = 54 ∨ b = 41 ∨ b = 55) : zQ f L b.toNat a = (match zAc f L a with | some (v, c) => some ((v, []), c) | none => none) := by
  unfold zQ
  rw [if_neg (zidx_f h0 (by (first | (apply Int.le_antisymm <;> omega) | omega))), if_neg (by (first | (apply Int.le_antisymm <;> omega) | omega)), if_pos ((zacc_i h0).mpr h)]
  rfl
theorem zQ_4 (h : b = 63 ∨ b = 64) : zQ f L b.toNat a = (match zE f L 0 a with | some c => some ((0, []), c) | none => none) := by
  unfold zQ
  rw [if_neg (zidx_f (by (first | (apply Int.le_antisymm <;> omega) | omega)) (by (first | (apply Int.le_antisymm <;> omega) | omega))), if_neg (by (first | (apply Int.le_antisymm <;> omega) | omega)), if_neg (zacc_f (by (first | (apply Int.le_antisymm <;> omega) | omega)) (by (first | (apply Int.le_antisymm <;> omega) | omega))), if_pos (by (first | (apply Int.le_antisymm <;> omega) | omega))]
  rfl
theorem zQ_5 (h : b = 65) : zQ f L b.toNat a = (match zSn f L zq32 5 a with | some c => some ((0, []), c) | none => none) := by
  subst h
  rfl
theorem zQ_6 (h : b = 66) : zQ f L b.toNat a = (match zSn f L zq64 10 a with | some c => some ((0, []), c) | none => none) := by
  subst h
  rfl
theorem zQ_7 (h0 : 0 ≤ b) (h1 : ¬ (b = 12 ∨ b = 13 ∨ b = 16 ∨ b = 32 ∨ b = 33 ∨ b = 34 ∨ b = 35 ∨ b = 36)) (h2 : ¬ (b = 44 ∨ b = 45 ∨ b = 58 ∨ b = 40 ∨ b = 54 ∨ b = 41 ∨ b = 55)) (h3 : b ≠ 14 ∧ b ≠ 63 ∧ b ≠ 64 ∧ b ≠ 65 ∧ b ≠ 66) : zQ f L b.toNat a = if zplain b.toNat = true then some ((0, []), a) else none := by
  unfold zQ
  rw [if_neg (zidx_f h0 h1), if_neg (by (first | (apply Int.le_antisymm <;> omega) | omega)), if_neg (zacc_f h0 h2), if_neg (by (first | (apply Int.le_antisymm <;> omega) | omega)), if_neg (by (first | (apply Int.le_antisymm <;> omega) | omega)), if_neg (by (first | (apply Int.le_antisymm <;> omega) | omega))]
end ZQ
def tbR (f : Nat → Int32) (L c n : Nat) (a : Int32) (k : Int) : Prop := ∃ l : List Nat, (l.length : Int) = k ∧ zA (zM f L 2147483647) (n + 1 - l.length) l a.toNatClampNeg = zA (zM f L 2147483647) (n + 1) [] c
theorem tbR_0 {f : Nat → Int32} {L n : Nat} {a : Int32} {k : Int} (hk : k = 0) : tbR f L a.toNatClampNeg n a k := ⟨[], by rw [hk]; rfl, rfl⟩
theorem tbR_s {f : Nat → Int32} {L c n : Nat} {a a2 : Int32} {k r : Int} (h : tbR f L c n a k) (hr : zM f L 2147483647 a.toNatClampNeg = some (r.toNat, a2.toNatClampNeg)) (hk : k ≤ n) : tbR f L c n a2 (k + 1) := by
  obtain ⟨l, h2, h3⟩ := h
  refine ⟨l ++ [r.toNat], by rw [List.length_append, List.length_singleton]; (first | (apply Int.le_antisymm <;> omega) | omega), ?_⟩
  rw [← h3, show n + 1 - l.length = (n + 1 - (l ++ [r.toNat]).length) + 1 by rw [List.length_append, List.length_singleton]; (first | (apply Int.le_antisymm <;> omega) | omega), zA, hr]
theorem tbR_n {f : Nat → Int32} {L c n : Nat} {a : Int32} {k : Int} (h : tbR f L c n a k) (hr : zM f L 2147483647 a.toNatClampNeg = none) (hk : k ≤ n) : zA (zM f L 2147483647) (n + 1) [] c = none := by
  obtain ⟨l, h2, h3⟩ := h
  rw [← h3, show n + 1 - l.length = (n - l.length) + 1 by (first | (apply Int.le_antisymm <;> omega) | omega), zA, hr]
theorem tbR_e {f : Nat → Int32} {L c n : Nat} {a : Int32} {k : Int} (h : tbR f L c n a k) (hk : k = n + 1) : ∃ l, zA (zM f L 2147483647) (n + 1) [] c = some (l, a.toNatClampNeg) := by
  obtain ⟨l, h2, h3⟩ := h
  refine ⟨l, ?_⟩
  rw [← h3, show n + 1 - l.length = 0 by (first | (apply Int.le_antisymm <;> omega) | omega), zA]
theorem zTb_s {f : Nat → Int32} {L a n c : Nat} (h : zM f L 50 a = some (n, c)) : zTb f L a = (match zA (zM f L 2147483647) (n + 1) [] c with | some (l, d) => some ((n, l), d) | none => none) := by
  unfold zTb
  rw [h]
  rfl
theorem zTb_n {f : Nat → Int32} {L a : Nat} (h : zM f L 50 a = none) : zTb f L a = none := by
  unfold zTb
  rw [h]
theorem zAc_s {f : Nat → Int32} {L a v c : Nat} (h : zM f L 2147483647 a = some (v, c)) : zAc f L a = (match zM f L 4294967295 c with | some (_, d) => some (v, d) | none => none) := by
  unfold zAc
  rw [h]
  rfl
theorem zAc_n {f : Nat → Int32} {L a : Nat} (h : zM f L 2147483647 a = none) : zAc f L a = none := by
  unfold zAc
  rw [h]
theorem rp_s {o : Option Nat} {s s2 a2 : Int32} (h : rp o s s2 a2) (h2 : s2.toInt = 1) : o = some a2.toNatClampNeg := by
  rcases h with ⟨h1, h3, h4⟩ | ⟨h1, -⟩
  · exact h4
  · (first | (apply Int.le_antisymm <;> omega) | omega)
theorem zE_s {f : Nat → Int32} {L v : Nat} {a lim a3 r : Int32} (h : rn f 1 a lim 1 a3 r) (hl : lim.toNatClampNeg = L) (ha : 0 ≤ a.toInt) (hl0 : 0 ≤ lim.toInt) : zE f L v a.toNatClampNeg = if r.toInt = (v : Int) then some a3.toNatClampNeg else none := by
  subst hl
  have ka := i32_clamp ha
  have kl := i32_clamp hl0
  rcases h with ⟨h1, h2, h3, h4, h5⟩ | ⟨h1, h2, h3, h4⟩
  · have k3 := i32_clamp (x := a3) (by (first | (apply Int.le_antisymm <;> omega) | omega))
    unfold zE
    by_cases w : r.toInt = (v : Int)
    · rw [if_pos w, if_pos ⟨by (first | (apply Int.le_antisymm <;> omega) | omega), by (first | (apply Int.le_antisymm <;> omega) | omega)⟩, show a.toNatClampNeg + 1 = a3.toNatClampNeg by (first | (apply Int.le_antisymm <;> omega) | omega)]
    · rw [if_neg w, if_neg (by (first | (apply Int.le_antisymm <;> omega) | omega))]
  · exact absurd h1 (by decide)
theorem zE_n {f : Nat → Int32} {v : Nat} {a lim : Int32} (h : lim.toInt ≤ a.toInt) (ha : 0 ≤ a.toInt) (hl0 : 0 ≤ lim.toInt) : zE f lim.toNatClampNeg v a.toNatClampNeg = none := by
  have ka := i32_clamp ha
  have kl := i32_clamp hl0
  unfold zE
  rw [if_neg (by (first | (apply Int.le_antisymm <;> omega) | omega))]
theorem zSg_32 {f : Nat → Int32} {L a : Nat} {b : Int} (h : b = 32) : zSg f L b a = zSn f L zq32 5 a := if_pos h
theorem zSg_64 {f : Nat → Int32} {L a : Nat} {b : Int} (h : b = 64) : zSg f L b a = zSn f L zq64 10 a := if_neg (by (first | (apply Int.le_antisymm <;> omega) | omega))

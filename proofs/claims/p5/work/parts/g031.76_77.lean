section q_76
/-! Coder: values: what each step's row of bytes and of waiting things comes to -/
section CV
variable {N fc gc g : Int} {gv tk : Nat → Int} {S S2 : List Nat} {bs M : List Nat} {K D L C c : Int} {pe pe2 : Nat → Int32} {n n2 ka : Nat} {y : Int32}
theorem cv_val {x : ci} (H : cI N gv tk fc gc g S (pl pe n) bs K D L C) (eS : S2 = 0 :: S) (h2 : n2 = n + 1) (hp : pe2 = upd pe n y) (hy : y.toInt = 127 ∨ y.toInt = 126) (ho : x.1 = 32 ∨ x.1 = 35 ∨ x.1 = 63 ∨ x.1 = 65 ∨ x.1 = 66) (h1 : x.1 = 32 → 0 ≤ x.2 ∧ x.2 < N) (h3 : x.1 = 35 → 0 ≤ x.2 ∧ x.2 < gc) (hM : M = en x) (h8 : 8 ≤ c) (h5 : 5 * (M.length : Int) ≤ c) (hok : iok x) :
    cI N gv tk fc gc g S2 (pl pe2 n2) (bs ++ M) K D L (C + c) := by
  subst eS; subst h2; subst hp; subst hM
  rw [pl_put]
  exact cI_val H hy ho h1 h3 h8 h5 hok
theorem cv_half (H : cI N gv tk fc gc g S (pl pe n) bs K D L C) (hs : ∃ T, S = 0 :: T ∧ ((ka = 36 ∧ c = 25 ∧ S2 = 2 :: T) ∨ (ka = 37 ∧ c = 10 ∧ S2 = 3 :: T))) (h1 : ka = 36 → M = [4, 127, 65, 1, 5]) (h2 : ka ≠ 36 → M = [4, 127]) (hF : fr S2 ≤ 100) : cI N gv tk fc gc g S2 (pl pe n) (bs ++ M) K D L (C + c) := by
  obtain ⟨T, eS, hs⟩ := hs
  subst eS
  have hn := cJ_pos H.1 (by decide)
  rw [pl_s (m := n - 1) (by (first | (apply Int.le_antisymm <;> omega) | omega))] at H ⊢
  rcases hs with ⟨e, rfl, rfl⟩ | ⟨e, rfl, rfl⟩
  · rw [h1 e]
    exact cI_or H hF
  · rw [h2 (by (first | (apply Int.le_antisymm <;> omega) | omega))]
    exact cI_and H hF
theorem cv_two0 (H : cI N gv tk fc gc g S (pl pe n) bs K D L C) (hs : ∃ T, S2 = 0 :: T ∧ ((ka = 36 ∧ c = 24 ∧ S = 0 :: 2 :: T) ∨ (ka = 37 ∧ c = 40 ∧ S = 0 :: 3 :: T) ∨ ((38 ≤ ka ∧ ka < 55) ∧ c = 10 ∧ S = 0 :: 0 :: T))) : 2 ≤ n ∧ ty (pe (n - 2)).toInt := by
  obtain ⟨T, -, hs⟩ := hs
  have q : ∃ x, (x = 0 ∨ x = 2 ∨ x = 3) ∧ S = 0 :: x :: T := by
    rcases hs with ⟨-, -, e⟩ | ⟨-, -, e⟩ | ⟨-, -, e⟩
    · exact ⟨2, by decide, e⟩
    · exact ⟨3, by decide, e⟩
    · exact ⟨0, by decide, e⟩
  obtain ⟨x, hx, e⟩ := q
  have H := H.1
  rw [e] at H
  have hn := cJ_pos H (by decide)
  rw [pl_s (m := n - 1) (by (first | (apply Int.le_antisymm <;> omega) | omega))] at H
  have H2 := (cJ_0 H).2
  have hm := cJ_pos H2 (by (first | (apply Int.le_antisymm <;> omega) | omega))
  refine ⟨by (first | (apply Int.le_antisymm <;> omega) | omega), ?_⟩
  rw [pl_s (m := n - 2) (by (first | (apply Int.le_antisymm <;> omega) | omega))] at H2
  rcases hx with rfl | rfl | rfl
  all_goals
    obtain ⟨t, Q, e1, e2, -⟩ := H2
    injection e1 with e3 e4
    rw [e3]
    exact e2
theorem cv_two (H : cI N gv tk fc gc g S (pl pe n) bs K D L C) (hs : ∃ T, S2 = 0 :: T ∧ ((ka = 36 ∧ c = 24 ∧ S = 0 :: 2 :: T) ∨ (ka = 37 ∧ c = 40 ∧ S = 0 :: 3 :: T) ∨ ((38 ≤ ka ∧ ka < 55) ∧ c = 10 ∧ S = 0 :: 0 :: T))) (h2 : n2 + 1 = n)
    (ha : (pe (n - 1)).toInt ≠ 64) (hb : (pe (n - 2)).toInt ≠ 64) (hl : ka = 36 ∨ ka = 37 → (pe (n - 1)).toInt = 127 ∧ (pe (n - 2)).toInt = 127) (hp : pe2 = upd pe (n - 2) y) (hy : ka = 36 ∨ ka = 37 → y.toInt = 127) (hy2 : y.toInt = 127 ∨ y.toInt = 126)
    (hM : (ka = 36 → M = [65, 0, 71, 11]) ∧ (ka = 37 → M = [65, 0, 71, 5, 65, 0, 11]) ∧ (38 ≤ ka → ∃ op : Int, two op ∧ M = [op.toNat])) : cI N gv tk fc gc g S2 (pl pe2 n2) (bs ++ M) K D L (C + c) := by
  obtain ⟨hn, -⟩ := cv_two0 H hs
  obtain ⟨T, eS2, hs⟩ := hs
  subst eS2; subst hp
  rw [show n2 = n - 2 + 1 by (first | (apply Int.le_antisymm <;> omega) | omega), pl_put]
  rw [pl_s (n := n) (m := n - 1) (by (first | (apply Int.le_antisymm <;> omega) | omega)), pl_s (n := n - 1) (m := n - 2) (by (first | (apply Int.le_antisymm <;> omega) | omega))] at H
  rcases hs with ⟨e, rfl, rfl⟩ | ⟨e, rfl, rfl⟩ | ⟨e, rfl, rfl⟩
  · rw [hM.1 e, hy (Or.inl e)]
    exact cI_or2 H (hl (Or.inl e)).1 (hl (Or.inl e)).2
  · rw [hM.2.1 e, hy (Or.inr e)]
    exact cI_and2 H (hl (Or.inr e)).1 (hl (Or.inr e)).2
  · obtain ⟨op, q1, q2⟩ := hM.2.2 e.1
    rw [q2]
    exact cI_two H ha hb hy2 q1
theorem cv_preb (H : cI N gv tk fc gc g S (pl pe n) bs K D L C) (hs : c = 10 ∧ S2 = 1 :: S) (h2 : n2 = n + 1) (hp : pe2 = upd pe n y) (hy : y.toInt = bs.length) (hM : M = [65, 0]) : cI N gv tk fc gc g S2 (pl pe2 n2) (bs ++ M) K D L (C + c) := by
  obtain ⟨rfl, rfl⟩ := hs
  subst h2; subst hp; subst hM
  rw [pl_put, hy]
  exact cI_pre H
theorem cv_neg0 (H : cI N gv tk fc gc g S (pl pe n) bs K D L C) (hs : ∃ T, S2 = 0 :: T ∧ ((ka = 51 ∧ c = 10 ∧ S = 0 :: 1 :: T) ∨ ((ka = 34 ∨ ka = 35) ∧ c = 16 ∧ S = 0 :: T))) : 1 ≤ n ∧ ty (pe (n - 1)).toInt ∧ (ka = 51 → 2 ≤ n ∧ 0 ≤ (pe (n - 2)).toInt ∧ (pe (n - 2)).toInt < bs.length) := by
  obtain ⟨T, -, hs⟩ := hs
  have H := H.1
  have q : ∃ U, S = 0 :: U := by
    rcases hs with ⟨-, -, e⟩ | ⟨-, -, e⟩
    · exact ⟨_, e⟩
    · exact ⟨_, e⟩
  obtain ⟨U, eU⟩ := q
  have H0 := H
  rw [eU] at H0
  have hn := cJ_pos H0 (by decide)
  rw [pl_s (m := n - 1) (by (first | (apply Int.le_antisymm <;> omega) | omega))] at H0
  refine ⟨hn, (cJ_0 H0).1, fun e => ?_⟩
  rcases hs with ⟨-, -, e2⟩ | ⟨e3, -, -⟩
  · have e4 : U = 1 :: T := by rw [eU] at e2; injection e2
    have H1 := (cJ_0 H0).2
    rw [e4] at H1
    have hm := cJ_pos H1 (by decide)
    rw [pl_s (m := n - 2) (by (first | (apply Int.le_antisymm <;> omega) | omega))] at H1
    obtain ⟨t, Q, e5, e6, -⟩ := H1
    injection e5 with e7 e8
    rw [e7]
    (first | (apply Int.le_antisymm <;> omega) | omega)
  · (first | (apply Int.le_antisymm <;> omega) | omega)
theorem cv_pre {bs2 : List Nat} (H : cI N gv tk fc gc g S (pl pe n) bs K D L C) (hs : ∃ T, S2 = 0 :: T ∧ ((ka = 51 ∧ c = 10 ∧ S = 0 :: 1 :: T) ∨ ((ka = 34 ∨ ka = 35) ∧ c = 16 ∧ S = 0 :: T))) (ha : (pe (n - 1)).toInt ≠ 64)
    (h34 : ka = 34 → n2 = n ∧ (pe (n - 1)).toInt = 127 ∧ pe2 = upd pe (n - 1) (pe (n - 1)) ∧ bs2 = bs ++ [69])
    (h35 : ka = 35 → n2 = n ∧ pe2 = upd pe (n - 1) (pe (n - 1)) ∧ ∃ a b : Nat, (a = 65 ∨ a = 66) ∧ (b = 115 ∨ b = 133) ∧ bs2 = bs ++ [a, 127, b])
    (h51 : ka = 51 → n2 + 1 = n ∧ pe2 = upd pe (n - 2) (pe (n - 1)) ∧ ∃ a b : Nat, (a = 65 ∨ a = 66) ∧ (b = 107 ∨ b = 125) ∧ bs2 = bs.set (pe (n - 2)).toInt.toNat a ++ [b]) : cI N gv tk fc gc g S2 (pl pe2 n2) bs2 K D L (C + c) := by
  obtain ⟨hn, hty, h2⟩ := cv_neg0 H hs
  have ht : (pe (n - 1)).toInt = 127 ∨ (pe (n - 1)).toInt = 126 := by clear h34 h35 h51 hs H h2; unfold ty at hty; (first | (apply Int.le_antisymm <;> omega) | omega)
  obtain ⟨T, eS2, hs⟩ := hs
  subst eS2
  rcases hs with ⟨e, rfl, rfl⟩ | ⟨e | e, rfl, rfl⟩
  · obtain ⟨q1, q2, a, b, q3, q4, q5⟩ := h51 e
    have := h2 e
    subst q2
    rw [show n2 = n - 2 + 1 by (first | (apply Int.le_antisymm <;> omega) | omega), pl_put, q5]
    rw [pl_s (n := n) (m := n - 1) (by (first | (apply Int.le_antisymm <;> omega) | omega)), pl_s (n := n - 1) (m := n - 2) (by (first | (apply Int.le_antisymm <;> omega) | omega))] at H
    exact cI_neg H ht q3 q4
  · obtain ⟨q1, q2, q3, q4⟩ := h34 e
    subst q3
    rw [show n2 = n - 1 + 1 by (first | (apply Int.le_antisymm <;> omega) | omega), pl_put, q4]
    rw [pl_s (n := n) (m := n - 1) (by (first | (apply Int.le_antisymm <;> omega) | omega))] at H
    exact cI_not H q2
  · obtain ⟨q1, q2, a, b, q3, q4, q5⟩ := h35 e
    subst q2
    rw [show n2 = n - 1 + 1 by (first | (apply Int.le_antisymm <;> omega) | omega), pl_put, q5]
    rw [pl_s (n := n) (m := n - 1) (by (first | (apply Int.le_antisymm <;> omega) | omega))] at H
    exact cI_inv H ht q3 q4
theorem cv_conv (H : cI N gv tk fc gc g S (pl pe n) bs K D L C) (hs : (ka = 14 ∨ ka = 15) ∧ c = 10 ∧ ∃ T, S = 0 :: T ∧ S2 = 0 :: T) (h2 : n2 = n) (ha : (pe (n - 1)).toInt ≠ 64) (hp : pe2 = upd pe (n - 1) y) (hy : y.toInt = 127 ∨ y.toInt = 126) (hM : M = [] ∨ M = [172] ∨ M = [167]) : cI N gv tk fc gc g S2 (pl pe2 n2) (bs ++ M) K D L (C + c) := by
  obtain ⟨-, rfl, T, rfl, rfl⟩ := hs
  subst hp; subst h2
  have hn := cJ_pos H.1 (by decide)
  rw [show pl (upd pe (n2 - 1) y) n2 = pl (upd pe (n2 - 1) y) (n2 - 1 + 1) by rw [show n2 - 1 + 1 = n2 by (first | (apply Int.le_antisymm <;> omega) | omega)], pl_put]
  rw [pl_s (n := n2) (m := n2 - 1) (by (first | (apply Int.le_antisymm <;> omega) | omega))] at H
  exact cI_conv H ha hy hM
theorem cv_call0 {v z : Int} (H : cI N gv tk fc gc g S (pl pe n) bs K D L C) (hl : lm S ∧ lm S2) (hs : ∃ (T : List Nat) (m : Nat), v = m ∧ (m : Int) ≤ 8 ∧ S = List.replicate m 0 ++ T ∧ S2 = 0 :: T ∧ ((ka = 2 ∧ (1 ≤ z ∧ z ≤ 20) ∧ c = 10) ∨ ((17 ≤ ka ∧ ka ≤ 25) ∧ c = 15))) : 0 ≤ v ∧ v ≤ 8 ∧ v ≤ n ∧ (n : Int) - v < 680 ∧ ((ka = 2 ∧ (1 ≤ z ∧ z ≤ 20)) ∨ (17 ≤ ka ∧ ka ≤ 25)) := by
  obtain ⟨T, m, a1, a2, a3, a4, a5⟩ := hs
  subst a3; subst a4
  have q := cJ_n m H.1
  have q2 := (cJ_b _ H.1).2.2.2.2.2
  have q3 := hl.2.1
  rw [pl_len] at q q2
  rw [List.length_append, List.length_replicate] at q2
  rw [List.length_cons] at q3
  refine ⟨by (first | (apply Int.le_antisymm <;> omega) | omega), by (first | (apply Int.le_antisymm <;> omega) | omega), by (first | (apply Int.le_antisymm <;> omega) | omega), by (first | (apply Int.le_antisymm <;> omega) | omega), ?_⟩
  rcases a5 with w | w
  · exact Or.inl ⟨w.1, w.2.1⟩
  · exact Or.inr w.1
theorem cv_call {v z : Int} {f : Nat} (H : cI N gv tk fc gc g S (pl pe n) bs K D L C) (hs : ∃ (T : List Nat) (m : Nat), v = m ∧ (m : Int) ≤ 8 ∧ S = List.replicate m 0 ++ T ∧ S2 = 0 :: T ∧ ((ka = 2 ∧ (1 ≤ z ∧ z ≤ 20) ∧ c = 10) ∨ ((17 ≤ ka ∧ ka ≤ 25) ∧ c = 15))) (hk : ka = 2) (h2 : (n2 : Int) = n - v + 1)
    (ha : ∀ j : Nat, (n : Int) - v ≤ j → (j : Int) < n → (pe j).toInt ≠ 64) (hf : (f : Int) < fc) (h9 : f < 128) (ht : tk f = v) (hg : gv f = ga y.toInt) (hy : ty y.toInt) (hp : pe2 = upd pe ((n : Int) - v).toNat y) (hM : M = [16, f]) : cI N gv tk fc gc g S2 (pl pe2 n2) (bs ++ M) K D L (C + c) := by
  obtain ⟨T, m, a1, a2, a3, a4, a5⟩ := hs
  have q := H.1
  rw [a3] at q
  have q := cJ_n m q
  rw [pl_len] at q
  subst a3; subst a4; subst hp; subst hM
  have e1 : ((n : Int) - v).toNat = n - m := by (first | (apply Int.le_antisymm <;> omega) | omega)
  rw [e1, show n2 = n - m + 1 by (first | (apply Int.le_antisymm <;> omega) | omega), pl_put]
  rw [show pl pe n = pl pe (n - m + m) by rw [show n - m + m = n by (first | (apply Int.le_antisymm <;> omega) | omega)]] at H
  have hc : c = 10 := by (first | (apply Int.le_antisymm <;> omega) | omega)
  rw [hc]
  have := cI_call (v := (f : Int)) (t := y.toInt) H (fun j j1 j2 => ha j (by (first | (apply Int.le_antisymm <;> omega) | omega)) (by (first | (apply Int.le_antisymm <;> omega) | omega))) (by (first | (apply Int.le_antisymm <;> omega) | omega)) hf (by (first | (apply Int.le_antisymm <;> omega) | omega)) (by rw [show ((f : Int)).toNat = f from rfl]; (first | (apply Int.le_antisymm <;> omega) | omega)) hg hy
  exact this
theorem cv_own {v z op a : Int} (H : cI N gv tk fc gc g S (pl pe n) bs K D L C) (hs : ∃ (T : List Nat) (m : Nat), v = m ∧ (m : Int) ≤ 8 ∧ S = List.replicate m 0 ++ T ∧ S2 = 0 :: T ∧ ((ka = 2 ∧ (1 ≤ z ∧ z ≤ 20) ∧ c = 10) ∨ ((17 ≤ ka ∧ ka ≤ 25) ∧ c = 15))) (hk : ka ≠ 2) (h2 : (n2 : Int) = n - v + 1)
    (ha : ∀ j : Nat, (n : Int) - v ≤ j → (j : Int) < n → (pe j).toInt ≠ 64) (ho : oc op v y.toInt) (hy : ty y.toInt) (hp : pe2 = upd pe ((n : Int) - v).toNat y) (hM : M = en (op, a)) (h3 : (M.length : Int) ≤ 3) (hio : iok (op, a)) : cI N gv tk fc gc g S2 (pl pe2 n2) (bs ++ M) K D L (C + c) := by
  obtain ⟨T, m, a1, a2, a3, a4, a5⟩ := hs
  have q := H.1
  rw [a3] at q
  have q := cJ_n m q
  rw [pl_len] at q
  subst a3; subst a4; subst hp
  have e1 : ((n : Int) - v).toNat = n - m := by (first | (apply Int.le_antisymm <;> omega) | omega)
  rw [e1, show n2 = n - m + 1 by (first | (apply Int.le_antisymm <;> omega) | omega), pl_put]
  rw [show pl pe n = pl pe (n - m + m) by rw [show n - m + m = n by (first | (apply Int.le_antisymm <;> omega) | omega)]] at H
  have hc : c = 15 := by (first | (apply Int.le_antisymm <;> omega) | omega)
  rw [hc]
  subst a1
  exact cI_own H (fun j j1 j2 => ha j (by (first | (apply Int.le_antisymm <;> omega) | omega)) (by (first | (apply Int.le_antisymm <;> omega) | omega))) ho hy hM h3 hio
end CV
theorem iok_c {g : Nat} {z : Int} {o : Int32} {w : Int64} (x : Int64) (h : (o.toInt = 65 ∧ g = 3) ∨ o.toInt = 66) (t : tkT g z w.toInt) (e : x = w) : iok (o.toInt, w.toInt) := by
  have b1 := Int64.toInt_lt w
  have b2 := Int64.le_toInt w
  rcases h with ⟨h1, h2⟩ | h1
  · have q := t.2.2.1 h2
    exact Or.inr (Or.inl ⟨h1, by dsimp only; (first | (apply Int.le_antisymm <;> omega) | omega), q.2.2⟩)
  · exact Or.inr (Or.inr (Or.inl ⟨h1, by dsimp only; (first | (apply Int.le_antisymm <;> omega) | omega), by dsimp only; (first | (apply Int.le_antisymm <;> omega) | omega)⟩))
abbrev b_CO_codeValue : ByteArray := prog_4_method_6_code
def y_CO_codeValue : MethodName := ⟨R_CO, "codeValue", "(I)V"⟩
abbrev w_CO_codeValue : List Cond := .code y_CO_codeValue b_CO_codeValue 3 none :: lw_g
theorem kC_CO_codeValue : Cond.code y_CO_codeValue b_CO_codeValue 3 none ∈ lw_g := in_c5 148 rfl rfl
theorem d_CO_codeValue_0 : decode b_CO_codeValue 0 = .ok (.aload_n 0, 1) := bz_c42 (by decide +kernel)
theorem d_CO_codeValue_1 : decode b_CO_codeValue 1 = .ok (.getfield 36, 3) := bz_c180 (by decide +kernel)
theorem d_CO_codeValue_4 : decode b_CO_codeValue 4 = .ok (.getfield 166, 3) := bz_c180 (by decide +kernel)
theorem d_CO_codeValue_7 : decode b_CO_codeValue 7 = .ok (.iload_n 1, 1) := bz_c27 (by decide +kernel)
theorem d_CO_codeValue_8 : decode b_CO_codeValue 8 = .ok (.aaload, 1) := bz_c50 (by decide +kernel)
theorem d_CO_codeValue_9 : decode b_CO_codeValue 9 = .ok (.astore_n 2, 1) := bz_c77 (by decide +kernel)
theorem d_CO_codeValue_10 : decode b_CO_codeValue 10 = .ok (.aload_n 0, 1) := bz_c42 (by decide +kernel)
theorem d_CO_codeValue_11 : decode b_CO_codeValue 11 = .ok (.getfield 36, 3) := bz_c180 (by decide +kernel)
theorem d_CO_codeValue_14 : decode b_CO_codeValue 14 = .ok (.getfield 143, 3) := bz_c180 (by decide +kernel)
theorem d_CO_codeValue_17 : decode b_CO_codeValue 17 = .ok (.iload_n 1, 1) := bz_c27 (by decide +kernel)
theorem d_CO_codeValue_18 : decode b_CO_codeValue 18 = .ok (.iaload, 1) := bz_c46 (by decide +kernel)
theorem d_CO_codeValue_19 : decode b_CO_codeValue 19 = .ok (.tableswitch 189 0 6 #[41, 91, 99, 107, 124, 155, 172], 41) := by decide +kernel
theorem d_CO_codeValue_60 : decode b_CO_codeValue 60 = .ok (.aload_n 0, 1) := bz_c42 (by decide +kernel)
theorem d_CO_codeValue_61 : decode b_CO_codeValue 61 = .ok (.getfield 26, 3) := bz_c180 (by decide +kernel)
theorem d_CO_codeValue_64 : decode b_CO_codeValue 64 = .ok (.aload_n 2, 1) := bz_c44 (by decide +kernel)
theorem d_CO_codeValue_65 : decode b_CO_codeValue 65 = .ok (.invokevirtual 170, 3) := bz_c182 (by decide +kernel)
theorem d_CO_codeValue_68 : decode b_CO_codeValue 68 = .ok (.bipush 127, 2) := bz_c16 (by decide +kernel)
theorem d_CO_codeValue_70 : decode b_CO_codeValue 70 = .ok (.if_icmp .ne 8, 3) := bz_c160 (by decide +kernel)
theorem d_CO_codeValue_73 : decode b_CO_codeValue 73 = .ok (.bipush 65, 2) := bz_c16 (by decide +kernel)
theorem d_CO_codeValue_75 : decode b_CO_codeValue 75 = .ok (.goto 5, 3) := bz_c167 (by decide +kernel)
theorem d_CO_codeValue_78 : decode b_CO_codeValue 78 = .ok (.bipush 66, 2) := bz_c16 (by decide +kernel)
theorem d_CO_codeValue_80 : decode b_CO_codeValue 80 = .ok (.invokevirtual 76, 3) := bz_c182 (by decide +kernel)
theorem d_CO_codeValue_83 : decode b_CO_codeValue 83 = .ok (.aload_n 0, 1) := bz_c42 (by decide +kernel)
theorem d_CO_codeValue_84 : decode b_CO_codeValue 84 = .ok (.getfield 26, 3) := bz_c180 (by decide +kernel)
theorem d_CO_codeValue_87 : decode b_CO_codeValue 87 = .ok (.aload_n 0, 1) := bz_c42 (by decide +kernel)
theorem d_CO_codeValue_88 : decode b_CO_codeValue 88 = .ok (.getfield 36, 3) := bz_c180 (by decide +kernel)
theorem d_CO_codeValue_91 : decode b_CO_codeValue 91 = .ok (.getfield 175, 3) := bz_c180 (by decide +kernel)
theorem d_CO_codeValue_94 : decode b_CO_codeValue 94 = .ok (.iload_n 1, 1) := bz_c27 (by decide +kernel)
theorem d_CO_codeValue_95 : decode b_CO_codeValue 95 = .ok (.laload, 1) := bz_c47 (by decide +kernel)
theorem d_CO_codeValue_96 : decode b_CO_codeValue 96 = .ok (.invokevirtual 179, 3) := bz_c182 (by decide +kernel)
theorem d_CO_codeValue_99 : decode b_CO_codeValue 99 = .ok (.aload_n 0, 1) := bz_c42 (by decide +kernel)
theorem d_CO_codeValue_100 : decode b_CO_codeValue 100 = .ok (.aload_n 2, 1) := bz_c44 (by decide +kernel)
theorem d_CO_codeValue_101 : decode b_CO_codeValue 101 = .ok (.invokevirtual 170, 3) := bz_c182 (by decide +kernel)
theorem d_CO_codeValue_104 : decode b_CO_codeValue 104 = .ok (.invokevirtual 183, 3) := bz_c182 (by decide +kernel)
theorem d_CO_codeValue_107 : decode b_CO_codeValue 107 = .ok (.goto 121, 3) := bz_c167 (by decide +kernel)
theorem d_CO_codeValue_110 : decode b_CO_codeValue 110 = .ok (.aload_n 0, 1) := bz_c42 (by decide +kernel)
theorem d_CO_codeValue_111 : decode b_CO_codeValue 111 = .ok (.iload_n 1, 1) := bz_c27 (by decide +kernel)
theorem d_CO_codeValue_112 : decode b_CO_codeValue 112 = .ok (.invokevirtual 186, 3) := bz_c182 (by decide +kernel)
theorem d_CO_codeValue_115 : decode b_CO_codeValue 115 = .ok (.goto 113, 3) := bz_c167 (by decide +kernel)
theorem d_CO_codeValue_118 : decode b_CO_codeValue 118 = .ok (.aload_n 0, 1) := bz_c42 (by decide +kernel)
theorem d_CO_codeValue_119 : decode b_CO_codeValue 119 = .ok (.aload_n 2, 1) := bz_c44 (by decide +kernel)
theorem d_CO_codeValue_120 : decode b_CO_codeValue 120 = .ok (.invokevirtual 189, 3) := bz_c182 (by decide +kernel)
theorem d_CO_codeValue_123 : decode b_CO_codeValue 123 = .ok (.goto 105, 3) := bz_c167 (by decide +kernel)
theorem d_CO_codeValue_126 : decode b_CO_codeValue 126 = .ok (.aload_n 0, 1) := bz_c42 (by decide +kernel)
theorem d_CO_codeValue_127 : decode b_CO_codeValue 127 = .ok (.aload_n 2, 1) := bz_c44 (by decide +kernel)
theorem d_CO_codeValue_128 : decode b_CO_codeValue 128 = .ok (.aload_n 0, 1) := bz_c42 (by decide +kernel)
theorem d_CO_codeValue_129 : decode b_CO_codeValue 129 = .ok (.getfield 36, 3) := bz_c180 (by decide +kernel)
theorem d_CO_codeValue_132 : decode b_CO_codeValue 132 = .ok (.getfield 193, 3) := bz_c180 (by decide +kernel)
theorem d_CO_codeValue_135 : decode b_CO_codeValue 135 = .ok (.iload_n 1, 1) := bz_c27 (by decide +kernel)
theorem d_CO_codeValue_136 : decode b_CO_codeValue 136 = .ok (.iaload, 1) := bz_c46 (by decide +kernel)
theorem d_CO_codeValue_137 : decode b_CO_codeValue 137 = .ok (.invokevirtual 196, 3) := bz_c182 (by decide +kernel)
theorem d_CO_codeValue_140 : decode b_CO_codeValue 140 = .ok (.goto 88, 3) := bz_c167 (by decide +kernel)
theorem d_CO_codeValue_143 : decode b_CO_codeValue 143 = .ok (.aload_n 0, 1) := bz_c42 (by decide +kernel)
theorem d_CO_codeValue_144 : decode b_CO_codeValue 144 = .ok (.aload_n 0, 1) := bz_c42 (by decide +kernel)
theorem d_CO_codeValue_145 : decode b_CO_codeValue 145 = .ok (.getfield 26, 3) := bz_c180 (by decide +kernel)
theorem d_CO_codeValue_148 : decode b_CO_codeValue 148 = .ok (.getfield 64, 3) := bz_c180 (by decide +kernel)
theorem d_CO_codeValue_151 : decode b_CO_codeValue 151 = .ok (.invokevirtual 183, 3) := bz_c182 (by decide +kernel)
theorem d_CO_codeValue_154 : decode b_CO_codeValue 154 = .ok (.aload_n 0, 1) := bz_c42 (by decide +kernel)
theorem d_CO_codeValue_155 : decode b_CO_codeValue 155 = .ok (.getfield 26, 3) := bz_c180 (by decide +kernel)
theorem d_CO_codeValue_158 : decode b_CO_codeValue 158 = .ok (.bipush 65, 2) := bz_c16 (by decide +kernel)
theorem d_CO_codeValue_160 : decode b_CO_codeValue 160 = .ok (.invokevirtual 76, 3) := bz_c182 (by decide +kernel)
theorem d_CO_codeValue_163 : decode b_CO_codeValue 163 = .ok (.aload_n 0, 1) := bz_c42 (by decide +kernel)
theorem d_CO_codeValue_164 : decode b_CO_codeValue 164 = .ok (.getfield 26, 3) := bz_c180 (by decide +kernel)
theorem d_CO_codeValue_167 : decode b_CO_codeValue 167 = .ok (.iconst 0, 1) := bz_c3 (by decide +kernel)
theorem d_CO_codeValue_168 : decode b_CO_codeValue 168 = .ok (.invokevirtual 76, 3) := bz_c182 (by decide +kernel)
theorem d_CO_codeValue_171 : decode b_CO_codeValue 171 = .ok (.goto 57, 3) := bz_c167 (by decide +kernel)
theorem d_CO_codeValue_174 : decode b_CO_codeValue 174 = .ok (.aload_n 0, 1) := bz_c42 (by decide +kernel)
theorem d_CO_codeValue_175 : decode b_CO_codeValue 175 = .ok (.aload_n 2, 1) := bz_c44 (by decide +kernel)
theorem d_CO_codeValue_176 : decode b_CO_codeValue 176 = .ok (.aload_n 0, 1) := bz_c42 (by decide +kernel)
theorem d_CO_codeValue_177 : decode b_CO_codeValue 177 = .ok (.getfield 36, 3) := bz_c180 (by decide +kernel)
theorem d_CO_codeValue_180 : decode b_CO_codeValue 180 = .ok (.getfield 193, 3) := bz_c180 (by decide +kernel)
theorem d_CO_codeValue_183 : decode b_CO_codeValue 183 = .ok (.iload_n 1, 1) := bz_c27 (by decide +kernel)
theorem d_CO_codeValue_184 : decode b_CO_codeValue 184 = .ok (.iaload, 1) := bz_c46 (by decide +kernel)
theorem d_CO_codeValue_185 : decode b_CO_codeValue 185 = .ok (.invokevirtual 200, 3) := bz_c182 (by decide +kernel)
theorem d_CO_codeValue_188 : decode b_CO_codeValue 188 = .ok (.goto 40, 3) := bz_c167 (by decide +kernel)
theorem d_CO_codeValue_191 : decode b_CO_codeValue 191 = .ok (.aload_n 0, 1) := bz_c42 (by decide +kernel)
theorem d_CO_codeValue_192 : decode b_CO_codeValue 192 = .ok (.aload_n 2, 1) := bz_c44 (by decide +kernel)
theorem d_CO_codeValue_193 : decode b_CO_codeValue 193 = .ok (.aload_n 0, 1) := bz_c42 (by decide +kernel)
theorem d_CO_codeValue_194 : decode b_CO_codeValue 194 = .ok (.getfield 36, 3) := bz_c180 (by decide +kernel)
theorem d_CO_codeValue_197 : decode b_CO_codeValue 197 = .ok (.getfield 193, 3) := bz_c180 (by decide +kernel)
theorem d_CO_codeValue_200 : decode b_CO_codeValue 200 = .ok (.iload_n 1, 1) := bz_c27 (by decide +kernel)
theorem d_CO_codeValue_201 : decode b_CO_codeValue 201 = .ok (.iaload, 1) := bz_c46 (by decide +kernel)
theorem d_CO_codeValue_202 : decode b_CO_codeValue 202 = .ok (.invokevirtual 203, 3) := bz_c182 (by decide +kernel)
theorem d_CO_codeValue_205 : decode b_CO_codeValue 205 = .ok (.goto 23, 3) := bz_c167 (by decide +kernel)
theorem d_CO_codeValue_208 : decode b_CO_codeValue 208 = .ok (.aload_n 2, 1) := bz_c44 (by decide +kernel)
theorem d_CO_codeValue_209 : decode b_CO_codeValue 209 = .ok (.getstatic 206, 3) := bz_c178 (by decide +kernel)
theorem d_CO_codeValue_212 : decode b_CO_codeValue 212 = .ok (.if_acmp .ne 11, 3) := bz_c166 (by decide +kernel)
theorem d_CO_codeValue_215 : decode b_CO_codeValue 215 = .ok (.aload_n 0, 1) := bz_c42 (by decide +kernel)
theorem d_CO_codeValue_216 : decode b_CO_codeValue 216 = .ok (.iload_n 1, 1) := bz_c27 (by decide +kernel)
theorem d_CO_codeValue_217 : decode b_CO_codeValue 217 = .ok (.invokevirtual 210, 3) := bz_c182 (by decide +kernel)
theorem d_CO_codeValue_220 : decode b_CO_codeValue 220 = .ok (.goto 8, 3) := bz_c167 (by decide +kernel)
theorem d_CO_codeValue_223 : decode b_CO_codeValue 223 = .ok (.aload_n 0, 1) := bz_c42 (by decide +kernel)
theorem d_CO_codeValue_224 : decode b_CO_codeValue 224 = .ok (.iload_n 1, 1) := bz_c27 (by decide +kernel)
theorem d_CO_codeValue_225 : decode b_CO_codeValue 225 = .ok (.invokevirtual 213, 3) := bz_c182 (by decide +kernel)
theorem d_CO_codeValue_228 : decode b_CO_codeValue 228 = .ok (.return_, 1) := bz_c177 (by decide +kernel)
theorem kM_CO_186 : Cond.methodLink R_CO 186 y_CO_codeRead ∈ lw_g := in_c5 162 rfl rfl
theorem kV_CO_codeRead : Cond.instanceMethod y_CO_codeRead ∈ lw_g := in_c5 164 rfl rfl
theorem kS_CO_codeRead : Cond.selects R_CO y_CO_codeRead y_CO_codeRead ∈ lw_g := in_s 37 (by decide +kernel) rfl
theorem kM_CO_189 : Cond.methodLink R_CO 189 y_CO_codeHalfway ∈ lw_g := in_c5 170 rfl rfl
theorem kV_CO_codeHalfway : Cond.instanceMethod y_CO_codeHalfway ∈ lw_g := in_c5 172 rfl rfl
theorem kS_CO_codeHalfway : Cond.selects R_CO y_CO_codeHalfway y_CO_codeHalfway ∈ lw_g := in_s 38 (by decide +kernel) rfl
theorem kM_CO_196 : Cond.methodLink R_CO 196 y_CO_codeTwoSides ∈ lw_g := in_c5 175 rfl rfl
theorem kV_CO_codeTwoSides : Cond.instanceMethod y_CO_codeTwoSides ∈ lw_g := in_c5 177 rfl rfl
theorem kS_CO_codeTwoSides : Cond.selects R_CO y_CO_codeTwoSides y_CO_codeTwoSides ∈ lw_g := in_s 39 (by decide +kernel) rfl
theorem kM_CO_200 : Cond.methodLink R_CO 200 y_CO_codePrefix ∈ lw_g := in_c5 184 rfl rfl
theorem kV_CO_codePrefix : Cond.instanceMethod y_CO_codePrefix ∈ lw_g := in_c5 186 rfl rfl
theorem kS_CO_codePrefix : Cond.selects R_CO y_CO_codePrefix y_CO_codePrefix ∈ lw_g := in_s 41 (by decide +kernel) rfl
theorem kM_CO_203 : Cond.methodLink R_CO 203 y_CO_codeConvert ∈ lw_g := in_c5 195 rfl rfl
theorem kV_CO_codeConvert : Cond.instanceMethod y_CO_codeConvert ∈ lw_g := in_c5 197 rfl rfl
theorem kS_CO_codeConvert : Cond.selects R_CO y_CO_codeConvert y_CO_codeConvert ∈ lw_g := in_s 42 (by decide +kernel) rfl
theorem kM_CO_210 : Cond.methodLink R_CO 210 y_CO_codeCall ∈ lw_g := in_c5 200 rfl rfl
theorem kV_CO_codeCall : Cond.instanceMethod y_CO_codeCall ∈ lw_g := in_c5 202 rfl rfl
theorem kS_CO_codeCall : Cond.selects R_CO y_CO_codeCall y_CO_codeCall ∈ lw_g := in_s 43 (by decide +kernel) rfl
theorem kM_CO_213 : Cond.methodLink R_CO 213 y_CO_codeOwnCall ∈ lw_g := in_c5 204 rfl rfl
theorem kV_CO_codeOwnCall : Cond.instanceMethod y_CO_codeOwnCall ∈ lw_g := in_c5 206 rfl rfl
theorem kS_CO_codeOwnCall : Cond.selects R_CO y_CO_codeOwnCall y_CO_codeOwnCall ∈ lw_g := in_s 44 (by decide +kernel) rfl
theorem kF_CO_64 : Cond.fieldLink R_CO 64 "WaferForge$ByteRow" "length" "I" ∈ lw_g := in_c1 59 rfl rfl
theorem kF_CO_206 : Cond.fieldLink R_CO 206 "WaferForge$Sign" "NAME" "LWaferForge$Sign;" ∈ lw_g := in_c5 199 rfl rfl
abbrev at_CO_codeValue (dC : Nat → ClassId) (dI : Nat → Nat → Nat) (sa : Nat → Nat) (h0 pr kn lt pe to bo cs se gl fu pa pf sf pk pg pp pz pv pr_scanner_r pr_waiting_r pr_waitingPlaces_r bob tr kns knz knt knv tx gls glz glt glv fus fuz fut fuv pas paz pat pav : Nat) (cpe cbob ckns cknz cknt cknv ctx cpf cpk cpg cpp cpz cpv cgls cglz cglt cfus cfuz cfut cpat : ClassId) (h0_localCount : Int32) (h0_gives : Int32) (h0_depth : Int32) (h0_loopDepth : Int32) (pr_stepCount : Int32) (pr_open : Int32) (pr_twoSides : Int32) (pr_waitingCount : Int32) (kn_length : Int32) (gkns : Nat → Int32) (gknz : Nat → Int32) (gknt : Nat → Int32) (gknv : Nat → Int64) (tr_length : Int32) (gtx : Nat → Int32) (gpf : Nat → Int32) (gpk : Nat → Int32) (gpg : Nat → Option Nat) (gpp : Nat → Int32) (gpz : Nat → Int32) (gpv : Nat → Int64) (gl_length : Int32) (ggls : Nat → Int32) (gglz : Nat → Int32) (gglt : Nat → Int32) (fu_length : Int32) (gfus : Nat → Int32) (gfuz : Nat → Int32) (gfut : Nat → Int32) (pa_length : Int32) (gpat : Nat → Int32) (A : Nat → Prop) (u : (Nat → Int32) × (Nat → Int32) × Int32 × Int32 × Int32 × Int32) (t : State) : Prop := match u with | (gbob, gpe, bo_length, h0_pendingCount, pr_place, pr_reason) => va_P (dC, dI) cls (wz_204 h0 pr kn lt h0_localCount pe h0_pendingCount h0_gives h0_depth h0_loopDepth to bo cs se pr gl fu pa pf sf pk pg pp pz pv pr_reason pr_place pr_scanner_r pr_stepCount pr_open pr_twoSides pr_waiting_r pr_waitingPlaces_r pr_waitingCount pe cpe gpe bo bob bo_length bob cbob gbob kn tr kns knz knt knv kn_length kns ckns gkns knz cknz gknz knt cknt gknt knv cknv gknv tr tx tr_length tx ctx gtx pf cpf gpf pk cpk gpk pg cpg (fun j => (gpg j).map (sg sa)) pp cpp gpp pz cpz gpz pv cpv gpv gl tr gls glz glt glv gl_length gls cgls ggls glz cglz gglz glt cglt gglt fu tr fus fuz fut fuv fu_length fus cfus gfus fuz cfuz gfuz fut cfut gfut pa tr pas paz pat pav pa_length pat cpat gpat) t.heap ∧ va_K (dC, dI) cls [(cpe, .int), (cbob, .byte), (ckns, .int), (cknz, .int), (cknt, .int), (cknv, .long), (ctx, .byte), (cpf, .int), (cpk, .int), (cpg, .object "WaferForge$Sign"), (cpp, .int), (cpz, .int), (cpv, .long), (cgls, .int), (cglz, .int), (cglt, .int), (cfus, .int), (cfuz, .int), (cfut, .int), (cpat, .int)] t ∧ va_D A (wz_204 h0 pr kn lt h0_localCount pe h0_pendingCount h0_gives h0_depth h0_loopDepth to bo cs se pr gl fu pa pf sf pk pg pp pz pv pr_reason pr_place pr_scanner_r pr_stepCount pr_open pr_twoSides pr_waiting_r pr_waitingPlaces_r pr_waitingCount pe cpe gpe bo bob bo_length bob cbob gbob kn tr kns knz knt knv kn_length kns ckns gkns knz cknz gknz knt cknt gknt knv cknv gknv tr tx tr_length tx ctx gtx pf cpf gpf pk cpk gpk pg cpg (fun j => (gpg j).map (sg sa)) pp cpp gpp pz cpz gpz pv cpv gpv gl tr gls glz glt glv gl_length gls cgls ggls glz cglz gglz glt cglt gglt fu tr fus fuz fut fuv fu_length fus cfus gfus fuz cfuz gfuz fut cfut gfut pa tr pas paz pat pav pa_length pat cpat gpat)
set_option maxHeartbeats 4000000 in
set_option maxRecDepth 100000 in
theorem c_CO_codeValue (l : Launch) (hlt : l.stackTraces = false) (dC : Nat → ClassId) (dI : Nat → Nat → Nat) (sz : Nat) (sa : Nat → Nat) (h0 pr kn lt pe to bo cs se gl fu pa pf sf pk pg pp pz pv pr_scanner_r pr_waiting_r pr_waitingPlaces_r bob tr kns knz knt knv tx gls glz glt glv fus fuz fut fuv pas paz pat pav : Nat) (cpe cbob ckns cknz cknt cknv ctx cpf cpk cpg cpp cpz cpv cgls cglz cglt cfus cfuz cfut cpat : ClassId) (h0_localCount : Int32) (h0_pendingCount : Int32) (h0_gives : Int32) (h0_depth : Int32) (h0_loopDepth : Int32) (pr_reason : Int32) (pr_place : Int32) (pr_stepCount : Int32) (pr_open : Int32) (pr_twoSides : Int32) (pr_waitingCount : Int32) (gpe : Nat → Int32) (bo_length : Int32) (gbob : Nat → Int32) (kn_length : Int32) (gkns : Nat → Int32) (gknz : Nat → Int32) (gknt : Nat → Int32) (gknv : Nat → Int64) (tr_length : Int32) (gtx : Nat → Int32) (gpf : Nat → Int32) (gpk : Nat → Int32) (gpg : Nat → Option Nat) (gpp : Nat → Int32) (gpz : Nat → Int32) (gpv : Nat → Int64) (gl_length : Int32) (ggls : Nat → Int32) (gglz : Nat → Int32) (gglt : Nat → Int32) (fu_length : Int32) (gfus : Nat → Int32) (gfuz : Nat → Int32) (gfut : Nat → Int32) (pa_length : Int32) (gpat : Nat → Int32) (gS : List Nat) (gS2 : List Nat) (gC : Int) (gc1 : Int) (ka : Nat)  (b_h0_localCount : 0 ≤ h0_localCount.toInt ∧ h0_localCount.toInt ≤ 50) (b_h0_pendingCount : 0 ≤ h0_pendingCount.toInt ∧ h0_pendingCount.toInt ≤ 680) (b_bo_length : 0 ≤ bo_length.toInt ∧ bo_length.toInt ≤ 8192) (b_kn_length : 0 ≤ kn_length.toInt ∧ kn_length.toInt ≤ 50) (b_tr_length : 0 ≤ tr_length.toInt ∧ tr_length.toInt ≤ 2000) (b_gl_length : 0 ≤ gl_length.toInt ∧ gl_length.toInt ≤ 20) (b_fu_length : 0 ≤ fu_length.toInt ∧ fu_length.toInt ≤ 20) (b_pa_length : 0 ≤ pa_length.toInt ∧ pa_length.toInt ≤ 160) (p0 : Int32)  (hi : 0 ≤ p0.toInt ∧ p0.toInt < 4100) (hkd : 0 ≤ (gpk p0.toNatClampNeg).toInt ∧ (gpk p0.toNatClampNeg).toInt ≤ 7) (hka : ka < 55) (hI : bx (cI h0_localCount.toInt (gvF gfut) (tkF gpf) fu_length.toInt gl_length.toInt h0_gives.toInt gS (pl gpe h0_pendingCount.toNatClampNeg) (bl gbob bo_length.toNatClampNeg) kn_length.toInt h0_depth.toInt h0_loopDepth.toInt gC)) (hs : bx (sS (gpk p0.toNatClampNeg) ka (gpz p0.toNatClampNeg) (gpv p0.toNatClampNeg) gc1 gS gS2)) (hsg : gpg p0.toNatClampNeg = some ka) (hlm : bx (lm gS ∧ lm gS2)) (hcc : gC + gc1 ≤ 40000) (hkq : bx (kq kn_length.toInt gknt gknv h0_localCount.toInt)) (hgq : bx (gq gl_length.toInt gglt)) (hpf : bx (∀ f : Nat, (f : Int) < fu_length.toInt → 0 ≤ (gpf f).toInt ∧ (gpf f).toInt ≤ (gpf (f + 1)).toInt ∧ (gpf (f + 1)).toInt ≤ pa_length.toInt)) (hpq : bx (gq pa_length.toInt gpat)) (hfq : bx (∀ f : Nat, (f : Int) < fu_length.toInt → ty (gfut f).toInt)) (hpl : pa_length.toInt ≤ 160) : tz_Met l y_CO_codeValue w_CO_codeValue ({ frames := 8, cells := 1, slots := 6, locals := 139 }) (va_Pc [.ref h0, .int p0] (fun U => U.heap.size = sz ∧ va_P (dC, dI) cls (wz_204 h0 pr kn lt h0_localCount pe h0_pendingCount h0_gives h0_depth h0_loopDepth to bo cs se pr gl fu pa pf sf pk pg pp pz pv pr_reason pr_place pr_scanner_r pr_stepCount pr_open pr_twoSides pr_waiting_r pr_waitingPlaces_r pr_waitingCount pe cpe gpe bo bob bo_length bob cbob gbob kn tr kns knz knt knv kn_length kns ckns gkns knz cknz gknz knt cknt gknt knv cknv gknv tr tx tr_length tx ctx gtx pf cpf gpf pk cpk gpk pg cpg (fun j => (gpg j).map (sg sa)) pp cpp gpp pz cpz gpz pv cpv gpv gl tr gls glz glt glv gl_length gls cgls ggls glz cglz gglz glt cglt gglt fu tr fus fuz fut fuv fu_length fus cfus gfus fuz cfuz gfuz fut cfut gfut pa tr pas paz pat pav pa_length pat cpat gpat) U.heap ∧ va_K (dC, dI) cls [(cpe, .int), (cbob, .byte), (ckns, .int), (cknz, .int), (cknt, .int), (cknv, .long), (ctx, .byte), (cpf, .int), (cpk, .int), (cpg, .object "WaferForge$Sign"), (cpp, .int), (cpz, .int), (cpv, .long), (cgls, .int), (cglz, .int), (cglt, .int), (cfus, .int), (cfuz, .int), (cfut, .int), (cpat, .int)] U ∧ va_D (fun _ => True) (wz_204 h0 pr kn lt h0_localCount pe h0_pendingCount h0_gives h0_depth h0_loopDepth to bo cs se pr gl fu pa pf sf pk pg pp pz pv pr_reason pr_place pr_scanner_r pr_stepCount pr_open pr_twoSides pr_waiting_r pr_waitingPlaces_r pr_waitingCount pe cpe gpe bo bob bo_length bob cbob gbob kn tr kns knz knt knv kn_length kns ckns gkns knz cknz gknz knt cknt gknt knv cknv gknv tr tx tr_length tx ctx gtx pf cpf gpf pk cpk gpk pg cpg (fun j => (gpg j).map (sg sa)) pp cpp gpp pz cpz gpz pv cpv gpv gl tr gls glz glt glv gl_length gls cgls ggls glz cglz gglz glt cglt gglt fu tr fus fuz fut fuv fu_length fus cfus gfus fuz cfuz gfuz fut cfut gfut pa tr pas paz pat pav pa_length pat cpat gpat) ∧ sw sa (va_A (wz_204 h0 pr kn lt h0_localCount pe h0_pendingCount h0_gives h0_depth h0_loopDepth to bo cs se pr gl fu pa pf sf pk pg pp pz pv pr_reason pr_place pr_scanner_r pr_stepCount pr_open pr_twoSides pr_waiting_r pr_waitingPlaces_r pr_waitingCount pe cpe gpe bo bob bo_length bob cbob gbob kn tr kns knz knt knv kn_length kns ckns gkns knz cknz gknz knt cknt gknt knv cknv gknv tr tx tr_length tx ctx gtx pf cpf gpf pk cpk gpk pg cpg (fun j => (gpg j).map (sg sa)) pp cpp gpp pz cpz gpz pv cpv gpv gl tr gls glz glt glv gl_length gls cgls ggls glz cglz gglz glt cglt gglt fu tr fus fuz fut fuv fu_length fus cfus gfus fuz cfuz gfuz fut cfut gfut pa tr pas paz pat pav pa_length pat cpat gpat) sz) U U.heap)) (tq_Q (tq_v (fun (u : (Nat → Int32) × (Nat → Int32) × Int32 × Int32 × Int32 × Int32) => match u with | (gbob2, gpe2, bo_length2, h0_pendingCount2, pr_place2, pr_reason2) => (0 ≤ bo_length2.toInt ∧ bo_length2.toInt ≤ 8192) ∧ (0 ≤ h0_pendingCount2.toInt ∧ h0_pendingCount2.toInt ≤ 680) ∧ (cI h0_localCount.toInt (gvF gfut) (tkF gpf) fu_length.toInt gl_length.toInt h0_gives.toInt gS2 (pl gpe2 h0_pendingCount2.toNatClampNeg) (bl gbob2 bo_length2.toNatClampNeg) kn_length.toInt h0_depth.toInt h0_loopDepth.toInt (gC + gc1))) "java/lang/UnsupportedOperationException" (fun (u : (Nat → Int32) × (Nat → Int32) × Int32 × Int32 × Int32 × Int32) => match u with | (gbob2, gpe2, bo_length2, h0_pendingCount2, pr_place2, pr_reason2) => (0 ≤ bo_length2.toInt ∧ bo_length2.toInt ≤ 8192) ∧ (0 ≤ h0_pendingCount2.toInt ∧ h0_pendingCount2.toInt ≤ 680))) (at_CO_codeValue dC dI sa h0 pr kn lt pe to bo cs se gl fu pa pf sf pk pg pp pz pv pr_scanner_r pr_waiting_r pr_waitingPlaces_r bob tr kns knz knt knv tx gls glz glt glv fus fuz fut fuv pas paz pat pav cpe cbob ckns cknz cknt cknv ctx cpf cpk cpg cpp cpz cpv cgls cglz cglt cfus cfuz cfut cpat h0_localCount h0_gives h0_depth h0_loopDepth pr_stepCount pr_open pr_twoSides pr_waitingCount kn_length gkns gknz gknt gknv tr_length gtx gpf gpk gpg gpp gpz gpv gl_length ggls gglz gglt fu_length gfus gfuz gfut pa_length gpat (va_A (wz_204 h0 pr kn lt h0_localCount pe h0_pendingCount h0_gives h0_depth h0_loopDepth to bo cs se pr gl fu pa pf sf pk pg pp pz pv pr_reason pr_place pr_scanner_r pr_stepCount pr_open pr_twoSides pr_waiting_r pr_waitingPlaces_r pr_waitingCount pe cpe gpe bo bob bo_length bob cbob gbob kn tr kns knz knt knv kn_length kns ckns gkns knz cknz gknz knt cknt gknt knv cknv gknv tr tx tr_length tx ctx gtx pf cpf gpf pk cpk gpk pg cpg (fun j => (gpg j).map (sg sa)) pp cpp gpp pz cpz gpz pv cpv gpv gl tr gls glz glt glv gl_length gls cgls ggls glz cglz gglz glt cglt gglt fu tr fus fuz fut fuv fu_length fus cfus gfus fuz cfuz gfuz fut cfut gfut pa tr pas paz pat pav pa_length pat cpat gpat) sz)) (va_A (wz_204 h0 pr kn lt h0_localCount pe h0_pendingCount h0_gives h0_depth h0_loopDepth to bo cs se pr gl fu pa pf sf pk pg pp pz pv pr_reason pr_place pr_scanner_r pr_stepCount pr_open pr_twoSides pr_waiting_r pr_waitingPlaces_r pr_waitingCount pe cpe gpe bo bob bo_length bob cbob gbob kn tr kns knz knt knv kn_length kns ckns gkns knz cknz gknz knt cknt gknt knv cknv gknv tr tx tr_length tx ctx gtx pf cpf gpf pk cpk gpk pg cpg (fun j => (gpg j).map (sg sa)) pp cpp gpp pz cpz gpz pv cpv gpv gl tr gls glz glt glv gl_length gls cgls ggls glz cglz gglz glt cglt gglt fu tr fus fuz fut fuv fu_length fus cfus gfus fuz cfuz gfuz fut cfut gfut pa tr pas paz pat pav pa_length pat cpat gpat) sz)) (tz_k 0 0 1 6) (va_A (wz_204 h0 pr kn lt h0_localCount pe h0_pendingCount h0_gives h0_depth h0_loopDepth to bo cs se pr gl fu pa pf sf pk pg pp pz pv pr_reason pr_place pr_scanner_r pr_stepCount pr_open pr_twoSides pr_waiting_r pr_waitingPlaces_r pr_waitingCount pe cpe gpe bo bob bo_length bob cbob gbob kn tr kns knz knt knv kn_length kns ckns gkns knz cknz gknz knt cknt gknt knv cknv gknv tr tx tr_length tx ctx gtx pf cpf gpf pk cpk gpk pg cpg (fun j => (gpg j).map (sg sa)) pp cpp gpp pz cpz gpz pv cpv gpv gl tr gls glz glt glv gl_length gls cgls ggls glz cglz gglz glt cglt gglt fu tr fus fuz fut fuv fu_length fus cfus gfus fuz cfuz gfuz fut cfut gfut pa tr pas paz pat pav pa_length pat cpat gpat) sz) := by
  refine tz_ofW (cc := b_CO_codeValue) (maxL := 3) (ret := none) (by decide) rfl ?_
  intro p e s m args below meth c s₁ B hml hno hv
  obtain ⟨rfl, hsz, hP, hK, hD0, hSW⟩ := hv
  have hx := B.exec
  have hb := B.bytes
  have hr := B.returns
  have hts0 := atoms_spec (ws := w_CO_codeValue) B.pre
  have hts : ∀ w ∈ lw_g, w.before _ s = true := fun w h => hts0 w (List.mem_cons_of_mem _ h)
  have hown : s.vm.findClass R_CO = some m.cls := findClass_of_methodNamed B.named
  have hlocks := B.notSynchronized
  clear hts0
  subst hsz
  have hD := hD0.self (sz := s.heap.size)
  generalize hAe : va_A (wz_204 h0 pr kn lt h0_localCount pe h0_pendingCount h0_gives h0_depth h0_loopDepth to bo cs se pr gl fu pa pf sf pk pg pp pz pv pr_reason pr_place pr_scanner_r pr_stepCount pr_open pr_twoSides pr_waiting_r pr_waitingPlaces_r pr_waitingCount pe cpe gpe bo bob bo_length bob cbob gbob kn tr kns knz knt knv kn_length kns ckns gkns knz cknz gknz knt cknt gknt knv cknv gknv tr tx tr_length tx ctx gtx pf cpf gpf pk cpk gpk pg cpg (fun j => (gpg j).map (sg sa)) pp cpp gpp pz cpz gpz pv cpv gpv gl tr gls glz glt glv gl_length gls cgls ggls glz cglz gglz glt cglt gglt fu tr fus fuz fut fuv fu_length fus cfus gfus fuz cfuz gfuz fut cfut gfut pa tr pas paz pat pav pa_length pat cpat gpat) s.heap.size = A at hD hSW ⊢
  have hA : ∀ q : Nat, s.heap.size ≤ q → A q := fun q h => by rw [← hAe]; exact Or.inr h
  clear hAe
  have hP : va_P (dC, dI) cls (wz_204 h0 pr kn lt h0_localCount pe h0_pendingCount h0_gives h0_depth h0_loopDepth to bo cs se pr gl fu pa pf sf pk pg pp pz pv pr_reason pr_place pr_scanner_r pr_stepCount pr_open pr_twoSides pr_waiting_r pr_waitingPlaces_r pr_waitingCount pe cpe gpe bo bob bo_length bob cbob gbob kn tr kns knz knt knv kn_length kns ckns gkns knz cknz gknz knt cknt gknt knv cknv gknv tr tx tr_length tx ctx gtx pf cpf gpf pk cpk gpk pg cpg (fun j => (gpg j).map (sg sa)) pp cpp gpp pz cpz gpz pv cpv gpv gl tr gls glz glt glv gl_length gls cgls ggls glz cglz gglz glt cglt gglt fu tr fus fuz fut fuv fu_length fus cfus gfus fuz cfuz gfuz fut cfut gfut pa tr pas paz pat pav pa_length pat cpat gpat) s.heap := hP
  have hl := lv_entry ([.ref h0, .int p0]) (n := 3) (Nat.le_of_ble_eq_true rfl)
  rw [lg_entry_eq]
  generalize (lg_sl ([.ref h0, .int p0]) ++ List.replicate (3 - (lg_sl ([.ref h0, .int p0])).length) Slot.unset).toArray = ls at hl ⊢
  have hl : lv_has ls 3 [(0, .ref h0), (1, .int p0)] := hl
  have k0 : (0 : Int32).toInt = 0 := by decide
  refine w_gen (A := A) hP (fun H locs hP hS => ?_)
  have k65 : (65 : Int32).toInt = 65 := by decide
  have k66 : (66 : Int32).toInt = 66 := by decide
  have k127 : (127 : Int32).toInt = 127 := by decide
  have lo_p0 := i32_lo p0
  have hi_p0 := i32_hi p0
  have jb := cJ_b gS hI.out.1
  rw [pl_len, bl_len] at jb
  have j5 := hI.out.2.1.1
  rw [bl_len] at j5
  have zc := i32_clamp (x := h0_pendingCount) (by (first | (apply Int.le_antisymm <;> omega) | omega))
  have zb := i32_clamp (x := bo_length) (by (first | (apply Int.le_antisymm <;> omega) | omega))
  have hl1 := hlm.out.1
  have hl2 := hlm.out.2
  unfold lm at hl1 hl2
  have hc10 := sS_cost hs.out
  refine lv_aload_n hx hb d_CO_codeValue_0 rfl (lv_at hl 0 rfl) ?_
  refine va_get (D := (dC, dI)) (ci := 2) (v := .ref pr) (C := R_CO) (T := F_CO) (N := 13) hx hb hts i_CO hown hK hP 0 rfl rfl 0 (by decide) (hts _ kF_CO_36) (fun _ h9 => h9) rfl d_CO_codeValue_1 ?_
  refine va_get (D := (dC, dI)) (ci := 6) (v := .ref pg) (C := R_PR) (T := F_PR) (N := 19) hx hb hts i_PR hown hK hP 1 rfl rfl 6 (by decide) (hts _ kF_CO_166) (fun _ h9 => h9) rfl d_CO_codeValue_4 ?_
  refine lv_iload_n hx hb d_CO_codeValue_7 rfl (lv_at hl 1 rfl) ?_
  have g8 : vp_in p0 4100 := vp_in_iff.mpr ⟨by (first | (apply Int.le_antisymm <;> omega) | omega), by (first | (apply Int.le_antisymm <;> omega) | omega)⟩
  obtain ⟨k1, hk1, ek1⟩ : ∃ z : Nat, z < 55 ∧ gpg p0.toNatClampNeg = some z := ⟨ka, hka, hsg⟩
  refine va_aldq hx hb hK hP 14 9 rfl rfl g8 d_CO_codeValue_8 ?_
  refine w_top (v2 := .ref (sg sa k1)) (by show va_rf ((gpg p0.toNatClampNeg).map (sg sa)) = _; rw [ek1]; rfl) ?_
  have b9 : ka < 55 := by (first | (apply Int.le_antisymm <;> omega) | omega)
  have k9 : ka = k1 := Option.some.inj (hsg.symm.trans ek1)
  subst k9
  refine lv_astore_n (lv' := [(2, .ref (sg sa ka)), (0, .ref h0), (1, .int p0)]) hx hb d_CO_codeValue_9 rfl hl (by decide) rfl (fun ls hl => ?_)
  refine lv_aload_n hx hb d_CO_codeValue_10 rfl (lv_at hl 1 rfl) ?_
  refine va_get (D := (dC, dI)) (ci := 2) (v := .ref pr) (C := R_CO) (T := F_CO) (N := 13) hx hb hts i_CO hown hK hP 0 rfl rfl 0 (by decide) (hts _ kF_CO_36) (fun _ h9 => h9) rfl d_CO_codeValue_11 ?_
  refine va_get (D := (dC, dI)) (ci := 6) (v := .ref pk) (C := R_PR) (T := F_PR) (N := 19) hx hb hts i_PR hown hK hP 1 rfl rfl 5 (by decide) (hts _ kF_CO_143) (fun _ h9 => h9) rfl d_CO_codeValue_14 ?_
  refine lv_iload_n hx hb d_CO_codeValue_17 rfl (lv_at hl 2 rfl) ?_
  have g18 : vp_in p0 4100 := vp_in_iff.mpr ⟨by (first | (apply Int.le_antisymm <;> omega) | omega), by (first | (apply Int.le_antisymm <;> omega) | omega)⟩
  refine va_iald hx hb hK hP 13 8 rfl rfl g18 d_CO_codeValue_18 ?_
  refine lv_topi (fun x2 ex2 => ?_)
  have tx2 := hkd
  rw [← ex2] at tx2
  by_cases g19_60 : x2.toInt = 0
  · have ho19 : tab_off 189 0 6 #[41, 91, 99, 107, 124, 155, 172] x2.toInt = 41 := by rw [g19_60]; rfl
    refine lv_tab (tgt := 60) hx hb d_CO_codeValue_19 (by decide) ho19 (by decide) ?_
    clear ho19
    have h9 : (gpk p0.toNatClampNeg).toInt = 0 := by rw [← ex2]; (first | (apply Int.le_antisymm <;> omega) | omega)
    have s9 := sI_0 hs.out h9
    have q2 : gS2.length = gS.length + 1 := by rw [s9.2.2.2, List.length_cons]
    have sl0 := sleb_t s9.2.1 s9.1
    have ec0 := s9.2.2.1
    refine lv_aload_n hx hb d_CO_codeValue_60 rfl (lv_at hl 1 rfl) ?_
    refine va_get (D := (dC, dI)) (ci := 2) (v := .ref bo) (C := R_CO) (T := F_CO) (N := 13) hx hb hts i_CO hown hK hP 0 rfl rfl 10 (by decide) (hts _ kF_CO_26) (fun _ h9 => h9) rfl d_CO_codeValue_61 ?_
    refine lv_aload_n hx hb d_CO_codeValue_64 rfl (lv_at hl 0 rfl) ?_
    have hPc := hP.sb (wq := []) [] rfl
    have hDc := hD.sb (wq := []) [] (by decide) rfl
    have hKc := hK.sb (tyq := []) [] rfl
    have hFc := va_free (wc := []) hD hS hA [] rfl
    refine va_calli (va_runV (As := []) (rest := [.ref bo]) ⟨hx, hb, hml, hown, hts⟩ (c_SG_type l dC dI H.size sa ka b9 ) (cwV 0 hts (gV kM_CO_170 kV_SG_type kS_SG_type kI_SG kC_SG_type) rfl rfl rfl (by decide +kernel) ⟨Nat.le_of_ble_eq_true rfl, Nat.le_of_ble_eq_true rfl⟩) ⟨fun a U g mk z => by obtain ⟨z0, z1, zP, zK, zD, zS⟩ := z; exact ⟨z0, z1, zP, va_K.moved (u := U) (U := U.calling g mk a) (Vm.Alike.refl U.vm) zK, zD, sw.same (u := U) (U := U.calling g mk a) rfl zS⟩, va_recvE (i := ka) hSW.2.2.2.1 b9 hS, fun U hU hW => ⟨rfl, by rw [hU], va_P.he hU.symm hPc, va_K.moved hW.alike hKc, hDc.weaken (fun _ _ _ _ => trivial), hSW.call hS hFc hW hU⟩⟩ rfl rfl hl.1 rfl (lv_room (Nat.le_of_ble_eq_true rfl)) d_CO_codeValue_65 ⟨(Nat.zero_le _), (Nat.zero_le _)⟩) hS (fun q _ h => hFc q h) hFc (fun r3 u t H1 locs ht hvm hw hB hz1 hk1 hS => ?_)
    try dsimp only at hw
    have xr3 := hw
    try clear hw
    obtain ⟨hP1, hK1, hD1⟩ := hB
    replace hP1 := va_P.he ht hP1
    obtain ⟨hP, hD⟩ := va_join (wr := (wz_204 h0 pr kn lt h0_localCount pe h0_pendingCount h0_gives h0_depth h0_loopDepth to bo cs se pr gl fu pa pf sf pk pg pp pz pv pr_reason pr_place pr_scanner_r pr_stepCount pr_open pr_twoSides pr_waiting_r pr_waitingPlaces_r pr_waitingCount pe cpe gpe bo bob bo_length bob cbob gbob kn tr kns knz knt knv kn_length kns ckns gkns knz cknz gknz knt cknt gknt knv cknv gknv tr tx tr_length tx ctx gtx pf cpf gpf pk cpk gpk pg cpg (fun j => (gpg j).map (sg sa)) pp cpp gpp pz cpz gpz pv cpv gpv gl tr gls glz glt glv gl_length gls cgls ggls glz cglz gglz glt cglt gglt fu tr fus fuz fut fuv fu_length fus cfus gfus fuz cfuz gfuz fut cfut gfut pa tr pas paz pat pav pa_length pat cpat gpat)) (w1 := []) hP hD [] [0, 1, 2, 3, 4, 5, 6, 7, 8, 9, 10, 11, 12, 13, 14, 15, 16, 17, 18, 19, 20, 21, 22, 23, 24, 25, 26, 27] rfl rfl (by decide) (by decide) hk1 hFc hP1 hD1
    clear hPc hDc hKc hFc hz1 hk1 hP1 hK1 hD1
    rename Heap => H
    have hP : va_P (dC, dI) cls (wz_204 h0 pr kn lt h0_localCount pe h0_pendingCount h0_gives h0_depth h0_loopDepth to bo cs se pr gl fu pa pf sf pk pg pp pz pv pr_reason pr_place pr_scanner_r pr_stepCount pr_open pr_twoSides pr_waiting_r pr_waitingPlaces_r pr_waitingCount pe cpe gpe bo bob bo_length bob cbob gbob kn tr kns knz knt knv kn_length kns ckns gkns knz cknz gknz knt cknt gknt knv cknv gknv tr tx tr_length tx ctx gtx pf cpf gpf pk cpk gpk pg cpg (fun j => (gpg j).map (sg sa)) pp cpp gpp pz cpz gpz pv cpv gpv gl tr gls glz glt glv gl_length gls cgls ggls glz cglz gglz glt cglt gglt fu tr fus fuz fut fuv fu_length fus cfus gfus fuz cfuz gfuz fut cfut gfut pa tr pas paz pat pav pa_length pat cpat gpat) H := hP
    have hD : va_D A (wz_204 h0 pr kn lt h0_localCount pe h0_pendingCount h0_gives h0_depth h0_loopDepth to bo cs se pr gl fu pa pf sf pk pg pp pz pv pr_reason pr_place pr_scanner_r pr_stepCount pr_open pr_twoSides pr_waiting_r pr_waitingPlaces_r pr_waitingCount pe cpe gpe bo bob bo_length bob cbob gbob kn tr kns knz knt knv kn_length kns ckns gkns knz cknz gknz knt cknt gknt knv cknv gknv tr tx tr_length tx ctx gtx pf cpf gpf pk cpk gpk pg cpg (fun j => (gpg j).map (sg sa)) pp cpp gpp pz cpz gpz pv cpv gpv gl tr gls glz glt glv gl_length gls cgls ggls glz cglz gglz glt cglt gglt fu tr fus fuz fut fuv fu_length fus cfus gfus fuz cfuz gfuz fut cfut gfut pa tr pas paz pat pav pa_length pat cpat gpat) := hD
    refine lv_bipush (v := 127) hx hb d_CO_codeValue_68 (by decide) ?_
    refine w_cut (pc2 := 80) (σ := Int32) (fun u H locs ls => match u with | j80_s0 => ((j80_s0.toInt = 65 ∧ ka = 3) ∨ j80_s0.toInt = 66) ∧ va_P (dC, dI) cls (wz_204 h0 pr kn lt h0_localCount pe h0_pendingCount h0_gives h0_depth h0_loopDepth to bo cs se pr gl fu pa pf sf pk pg pp pz pv pr_reason pr_place pr_scanner_r pr_stepCount pr_open pr_twoSides pr_waiting_r pr_waitingPlaces_r pr_waitingCount pe cpe gpe bo bob bo_length bob cbob gbob kn tr kns knz knt knv kn_length kns ckns gkns knz cknz gknz knt cknt gknt knv cknv gknv tr tx tr_length tx ctx gtx pf cpf gpf pk cpk gpk pg cpg (fun j => (gpg j).map (sg sa)) pp cpp gpp pz cpz gpz pv cpv gpv gl tr gls glz glt glv gl_length gls cgls ggls glz cglz gglz glt cglt gglt fu tr fus fuz fut fuv fu_length fus cfus gfus fuz cfuz gfuz fut cfut gfut pa tr pas paz pat pav pa_length pat cpat gpat) H ∧ va_D A (wz_204 h0 pr kn lt h0_localCount pe h0_pendingCount h0_gives h0_depth h0_loopDepth to bo cs se pr gl fu pa pf sf pk pg pp pz pv pr_reason pr_place pr_scanner_r pr_stepCount pr_open pr_twoSides pr_waiting_r pr_waitingPlaces_r pr_waitingCount pe cpe gpe bo bob bo_length bob cbob gbob kn tr kns knz knt knv kn_length kns ckns gkns knz cknz gknz knt cknt gknt knv cknv gknv tr tx tr_length tx ctx gtx pf cpf gpf pk cpk gpk pg cpg (fun j => (gpg j).map (sg sa)) pp cpp gpp pz cpz gpz pv cpv gpv gl tr gls glz glt glv gl_length gls cgls ggls glz cglz gglz glt cglt gglt fu tr fus fuz fut fuv fu_length fus cfus gfus fuz cfuz gfuz fut cfut gfut pa tr pas paz pat pav pa_length pat cpat gpat) ∧ va_S A s.heap H locs ∧ lv_has ls 3 [(0, .ref h0), (1, .int p0), (2, .ref (sg sa ka))]) (fun u => match u with | j80_s0 => [.int j80_s0, .ref bo]) ?_ (fun jn80 => ?_)
    · intro u H locs ls hI
      obtain ⟨j80_s0, rfl⟩ : ∃ z, z = u := ⟨_, rfl⟩
      obtain ⟨y80, hP, hD, hS, hl⟩ := hI
      have hPc := hP.sb (wq := (wz_94 bo bob bo_length bob cbob gbob)) [3, 4] rfl
      have hDc := hD.sb (wq := (wz_94 bo bob bo_length bob cbob gbob)) [3, 4] (by decide) rfl
      have hKc := hK.sb (tyq := [(cbob, .byte)]) [1] rfl
      have hFc := va_free (wc := (wz_94 bo bob bo_length bob cbob gbob)) hD hS hA [3, 4] rfl
      refine va_callv (va_runV (As := [.int j80_s0]) (rest := []) ⟨hx, hb, hml, hown, hts⟩ (c_BR_put l dC dI bo bob H.size cbob 8192 bo_length gbob (by (first | (apply Int.le_antisymm <;> omega) | omega)) (by (first | (apply Int.le_antisymm <;> omega) | omega)) (by (first | (apply Int.le_antisymm <;> omega) | omega)) j80_s0) (cwV 1 hts (gV kM_CO_76 kV_BR_put kS_BR_put kI_BR kC_BR_put) rfl rfl rfl (by decide +kernel) ⟨Nat.le_of_ble_eq_true rfl, Nat.le_of_ble_eq_true rfl⟩) ⟨fun a U g mk z => by obtain ⟨z0, z1, zP, zK, zD⟩ := z; exact ⟨z0, z1, zP, va_K.moved (u := U) (U := U.calling g mk a) (Vm.Alike.refl U.vm) zK, zD⟩, va_recv hKc hPc (ci := 1) (q0 := 0) rfl rfl, fun U hU hW => ⟨rfl, by rw [hU], va_P.he hU.symm hPc, va_K.moved hW.alike hKc, hDc.weaken (fun _ _ _ _ => trivial)⟩⟩ rfl rfl hl.1 rfl (lv_room (Nat.le_of_ble_eq_true rfl)) d_CO_codeValue_80 ⟨(Nat.zero_le _), (Nat.zero_le _)⟩) hS (fun q _ h => hFc q h) hFc (fun u t H1 locs ht hvm hw hB hz1 hk1 hS => ?_)
      obtain ⟨n5, f6⟩ := u
      try dsimp only at hw
      have tn5 := br_put_in (by (first | (apply Int.le_antisymm <;> omega) | omega)) (by (first | (apply Int.le_antisymm <;> omega) | omega)) (by (first | (apply Int.le_antisymm <;> omega) | omega)) hw
      have bn5 := br_put_bl (by (first | (apply Int.le_antisymm <;> omega) | omega)) (by (first | (apply Int.le_antisymm <;> omega) | omega)) (by (first | (apply Int.le_antisymm <;> omega) | omega)) hw
      obtain ⟨hP1, hK1, hD1⟩ := hB
      replace hP1 := va_P.he ht hP1
      obtain ⟨hP, hD⟩ := va_join (wr := [(h0, .inr (2, [.ref pr, .ref kn, .ref lt, .int h0_localCount, .ref pe, .int h0_pendingCount, .int h0_gives, .int h0_depth, .int h0_loopDepth, .ref to, .ref bo, .ref cs, .ref se])), (pr, .inr (6, [.ref gl, .ref fu, .ref pa, .ref pf, .ref sf, .ref pk, .ref pg, .ref pp, .ref pz, .ref pv, .int pr_reason, .int pr_place, .ref pr_scanner_r, .int pr_stepCount, .int pr_open, .int pr_twoSides, .ref pr_waiting_r, .ref pr_waitingPlaces_r, .int pr_waitingCount])), (pe, .inl (cpe, 680, .inl gpe)), (kn, .inr (5, [.ref tr, .ref kns, .ref knz, .ref knt, .ref knv, .int kn_length])), (kns, .inl (ckns, 50, .inl gkns)), (knz, .inl (cknz, 50, .inl gknz)), (knt, .inl (cknt, 50, .inl gknt)), (knv, .inl (cknv, 50, .inr (.inl gknv))), (tr, .inr (1, [.ref tx, .int tr_length])), (tx, .inl (ctx, 2000, .inl gtx)), (pf, .inl (cpf, 21, .inl gpf)), (pk, .inl (cpk, 4100, .inl gpk)), (pg, .inl (cpg, 4100, .inr (.inr (.inr (.inr (fun j => (gpg j).map (sg sa))))))), (pp, .inl (cpp, 4100, .inl gpp)), (pz, .inl (cpz, 4100, .inl gpz)), (pv, .inl (cpv, 4100, .inr (.inl gpv))), (gl, .inr (5, [.ref tr, .ref gls, .ref glz, .ref glt, .ref glv, .int gl_length])), (gls, .inl (cgls, 20, .inl ggls)), (glz, .inl (cglz, 20, .inl gglz)), (glt, .inl (cglt, 20, .inl gglt)), (fu, .inr (5, [.ref tr, .ref fus, .ref fuz, .ref fut, .ref fuv, .int fu_length])), (fus, .inl (cfus, 20, .inl gfus)), (fuz, .inl (cfuz, 20, .inl gfuz)), (fut, .inl (cfut, 20, .inl gfut)), (pa, .inr (5, [.ref tr, .ref pas, .ref paz, .ref pat, .ref pav, .int pa_length])), (pat, .inl (cpat, 160, .inl gpat))]) (w1 := (wz_94 bo bob n5 bob cbob f6)) hP hD [3, 4] [0, 1, 2, 5, 6, 7, 8, 9, 10, 11, 12, 13, 14, 15, 16, 17, 18, 19, 20, 21, 22, 23, 24, 25, 26, 27] rfl rfl (by decide) (by decide) hk1 hFc hP1 hD1
      clear hPc hDc hKc hFc hz1 hk1 hP1 hK1 hD1
      rename Heap => H
      have hP : va_P (dC, dI) cls (wz_205 h0 pr kn lt h0_localCount pe h0_pendingCount h0_gives h0_depth h0_loopDepth to bo cs se pr gl fu pa pf sf pk pg pp pz pv pr_reason pr_place pr_scanner_r pr_stepCount pr_open pr_twoSides pr_waiting_r pr_waitingPlaces_r pr_waitingCount pe cpe gpe kn tr kns knz knt knv kn_length kns ckns gkns knz cknz gknz knt cknt gknt knv cknv gknv tr tx tr_length tx ctx gtx pf cpf gpf pk cpk gpk pg cpg (fun j => (gpg j).map (sg sa)) pp cpp gpp pz cpz gpz pv cpv gpv gl tr gls glz glt glv gl_length gls cgls ggls glz cglz gglz glt cglt gglt fu tr fus fuz fut fuv fu_length fus cfus gfus fuz cfuz gfuz fut cfut gfut pa tr pas paz pat pav pa_length pat cpat gpat bo bob n5 bob cbob f6) H := hP
      have hD : va_D A (wz_205 h0 pr kn lt h0_localCount pe h0_pendingCount h0_gives h0_depth h0_loopDepth to bo cs se pr gl fu pa pf sf pk pg pp pz pv pr_reason pr_place pr_scanner_r pr_stepCount pr_open pr_twoSides pr_waiting_r pr_waitingPlaces_r pr_waitingCount pe cpe gpe kn tr kns knz knt knv kn_length kns ckns gkns knz cknz gknz knt cknt gknt knv cknv gknv tr tx tr_length tx ctx gtx pf cpf gpf pk cpk gpk pg cpg (fun j => (gpg j).map (sg sa)) pp cpp gpp pz cpz gpz pv cpv gpv gl tr gls glz glt glv gl_length gls cgls ggls glz cglz gglz glt cglt gglt fu tr fus fuz fut fuv fu_length fus cfus gfus fuz cfuz gfuz fut cfut gfut pa tr pas paz pat pav pa_length pat cpat gpat bo bob n5 bob cbob f6) := hD
      refine lv_aload_n hx hb d_CO_codeValue_83 rfl (lv_at hl 0 rfl) ?_
      refine va_get (D := (dC, dI)) (ci := 2) (v := .ref bo) (C := R_CO) (T := F_CO) (N := 13) hx hb hts i_CO hown hK hP 0 rfl rfl 10 (by decide) (hts _ kF_CO_26) (fun _ h9 => h9) rfl d_CO_codeValue_84 ?_
      refine lv_aload_n hx hb d_CO_codeValue_87 rfl (lv_at hl 0 rfl) ?_
      refine va_get (D := (dC, dI)) (ci := 2) (v := .ref pr) (C := R_CO) (T := F_CO) (N := 13) hx hb hts i_CO hown hK hP 0 rfl rfl 0 (by decide) (hts _ kF_CO_36) (fun _ h9 => h9) rfl d_CO_codeValue_88 ?_
      refine va_get (D := (dC, dI)) (ci := 6) (v := .ref pv) (C := R_PR) (T := F_PR) (N := 19) hx hb hts i_PR hown hK hP 1 rfl rfl 9 (by decide) (hts _ kF_CO_175) (fun _ h9 => h9) rfl d_CO_codeValue_91 ?_
      refine lv_iload_n hx hb d_CO_codeValue_94 rfl (lv_at hl 1 rfl) ?_
      have g95 : vp_in p0 4100 := vp_in_iff.mpr ⟨by (first | (apply Int.le_antisymm <;> omega) | omega), by (first | (apply Int.le_antisymm <;> omega) | omega)⟩
      refine va_lald hx hb hK hP 15 12 rfl rfl g95 d_CO_codeValue_95 ?_
      refine lv_topl (fun x7 ex7 => ?_)
      rw [← ex7] at sl0
      have hPc := hP.sb (wq := (wz_94 bo bob n5 bob cbob f6)) [26, 27] rfl
      have hDc := hD.sb (wq := (wz_94 bo bob n5 bob cbob f6)) [26, 27] (by decide) rfl
      have hKc := hK.sb (tyq := [(cbob, .byte)]) [1] rfl
      have hFc := va_free (wc := (wz_94 bo bob n5 bob cbob f6)) hD hS hA [26, 27] rfl
      refine va_callv (va_runV (As := [.long x7]) (rest := []) ⟨hx, hb, hml, hown, hts⟩ (c_BR_putSigned l dC dI H.size bo bob cbob n5 8192 f6 x7 (by (first | (apply Int.le_antisymm <;> omega) | omega))) (cwV 1 hts (gV kM_CO_179 kV_BR_putSigned kS_BR_putSigned kI_BR kC_BR_putSigned) rfl rfl rfl (by decide +kernel) ⟨Nat.le_of_ble_eq_true rfl, Nat.le_of_ble_eq_true rfl⟩) ⟨fun a U g mk z => by obtain ⟨z0, z1, zP, zK, zD⟩ := z; exact ⟨z0, z1, zP, va_K.moved (u := U) (U := U.calling g mk a) (Vm.Alike.refl U.vm) zK, zD⟩, va_recv hKc hPc (ci := 1) (q0 := 0) rfl rfl, fun U hU hW => ⟨rfl, by rw [hU], va_P.he hU.symm hPc, va_K.moved hW.alike hKc, hDc.weaken (fun _ _ _ _ => trivial)⟩⟩ rfl rfl hl.1 rfl (lv_room (Nat.le_of_ble_eq_true rfl)) d_CO_codeValue_96 ⟨(Nat.zero_le _), (Nat.zero_le _)⟩) hS (fun q _ h => hFc q h) hFc (fun u t H1 locs ht hvm hw hB hz1 hk1 hS => ?_)
      obtain ⟨n9, n10⟩ := u
      try dsimp only at hw
      have xr8 := hw
      try clear hw
      obtain ⟨hP1, hK1, hD1⟩ := hB
      replace hP1 := va_P.he ht hP1
      obtain ⟨hP, hD⟩ := va_join (wr := [(h0, .inr (2, [.ref pr, .ref kn, .ref lt, .int h0_localCount, .ref pe, .int h0_pendingCount, .int h0_gives, .int h0_depth, .int h0_loopDepth, .ref to, .ref bo, .ref cs, .ref se])), (pr, .inr (6, [.ref gl, .ref fu, .ref pa, .ref pf, .ref sf, .ref pk, .ref pg, .ref pp, .ref pz, .ref pv, .int pr_reason, .int pr_place, .ref pr_scanner_r, .int pr_stepCount, .int pr_open, .int pr_twoSides, .ref pr_waiting_r, .ref pr_waitingPlaces_r, .int pr_waitingCount])), (pe, .inl (cpe, 680, .inl gpe)), (kn, .inr (5, [.ref tr, .ref kns, .ref knz, .ref knt, .ref knv, .int kn_length])), (kns, .inl (ckns, 50, .inl gkns)), (knz, .inl (cknz, 50, .inl gknz)), (knt, .inl (cknt, 50, .inl gknt)), (knv, .inl (cknv, 50, .inr (.inl gknv))), (tr, .inr (1, [.ref tx, .int tr_length])), (tx, .inl (ctx, 2000, .inl gtx)), (pf, .inl (cpf, 21, .inl gpf)), (pk, .inl (cpk, 4100, .inl gpk)), (pg, .inl (cpg, 4100, .inr (.inr (.inr (.inr (fun j => (gpg j).map (sg sa))))))), (pp, .inl (cpp, 4100, .inl gpp)), (pz, .inl (cpz, 4100, .inl gpz)), (pv, .inl (cpv, 4100, .inr (.inl gpv))), (gl, .inr (5, [.ref tr, .ref gls, .ref glz, .ref glt, .ref glv, .int gl_length])), (gls, .inl (cgls, 20, .inl ggls)), (glz, .inl (cglz, 20, .inl gglz)), (glt, .inl (cglt, 20, .inl gglt)), (fu, .inr (5, [.ref tr, .ref fus, .ref fuz, .ref fut, .ref fuv, .int fu_length])), (fus, .inl (cfus, 20, .inl gfus)), (fuz, .inl (cfuz, 20, .inl gfuz)), (fut, .inl (cfut, 20, .inl gfut)), (pa, .inr (5, [.ref tr, .ref pas, .ref paz, .ref pat, .ref pav, .int pa_length])), (pat, .inl (cpat, 160, .inl gpat))]) (w1 := (wz_94 bo bob n10 bob cbob n9)) hP hD [26, 27] [0, 1, 2, 3, 4, 5, 6, 7, 8, 9, 10, 11, 12, 13, 14, 15, 16, 17, 18, 19, 20, 21, 22, 23, 24, 25] rfl rfl (by decide) (by decide) hk1 hFc hP1 hD1
      clear hPc hDc hKc hFc hz1 hk1 hP1 hK1 hD1
      rename Heap => H
      have hP : va_P (dC, dI) cls (wz_205 h0 pr kn lt h0_localCount pe h0_pendingCount h0_gives h0_depth h0_loopDepth to bo cs se pr gl fu pa pf sf pk pg pp pz pv pr_reason pr_place pr_scanner_r pr_stepCount pr_open pr_twoSides pr_waiting_r pr_waitingPlaces_r pr_waitingCount pe cpe gpe kn tr kns knz knt knv kn_length kns ckns gkns knz cknz gknz knt cknt gknt knv cknv gknv tr tx tr_length tx ctx gtx pf cpf gpf pk cpk gpk pg cpg (fun j => (gpg j).map (sg sa)) pp cpp gpp pz cpz gpz pv cpv gpv gl tr gls glz glt glv gl_length gls cgls ggls glz cglz gglz glt cglt gglt fu tr fus fuz fut fuv fu_length fus cfus gfus fuz cfuz gfuz fut cfut gfut pa tr pas paz pat pav pa_length pat cpat gpat bo bob n10 bob cbob n9) H := hP
      have hD : va_D A (wz_205 h0 pr kn lt h0_localCount pe h0_pendingCount h0_gives h0_depth h0_loopDepth to bo cs se pr gl fu pa pf sf pk pg pp pz pv pr_reason pr_place pr_scanner_r pr_stepCount pr_open pr_twoSides pr_waiting_r pr_waitingPlaces_r pr_waitingCount pe cpe gpe kn tr kns knz knt knv kn_length kns ckns gkns knz cknz gknz knt cknt gknt knv cknv gknv tr tx tr_length tx ctx gtx pf cpf gpf pk cpk gpk pg cpg (fun j => (gpg j).map (sg sa)) pp cpp gpp pz cpz gpz pv cpv gpv gl tr gls glz glt glv gl_length gls cgls ggls glz cglz gglz glt cglt gglt fu tr fus fuz fut fuv fu_length fus cfus gfus fuz cfuz gfuz fut cfut gfut pa tr pas paz pat pav pa_length pat cpat gpat bo bob n10 bob cbob n9) := hD
      refine lv_aload_n hx hb d_CO_codeValue_99 rfl (lv_at hl 0 rfl) ?_
      refine lv_aload_n hx hb d_CO_codeValue_100 rfl (lv_at hl 2 rfl) ?_
      have hPc := hP.sb (wq := []) [] rfl
      have hDc := hD.sb (wq := []) [] (by decide) rfl
      have hKc := hK.sb (tyq := []) [] rfl
      have hFc := va_free (wc := []) hD hS hA [] rfl
      refine va_calli (va_runV (As := []) (rest := [.ref h0]) ⟨hx, hb, hml, hown, hts⟩ (c_SG_type l dC dI H.size sa ka b9 ) (cwV 0 hts (gV kM_CO_170 kV_SG_type kS_SG_type kI_SG kC_SG_type) rfl rfl rfl (by decide +kernel) ⟨Nat.le_of_ble_eq_true rfl, Nat.le_of_ble_eq_true rfl⟩) ⟨fun a U g mk z => by obtain ⟨z0, z1, zP, zK, zD, zS⟩ := z; exact ⟨z0, z1, zP, va_K.moved (u := U) (U := U.calling g mk a) (Vm.Alike.refl U.vm) zK, zD, sw.same (u := U) (U := U.calling g mk a) rfl zS⟩, va_recvE (i := ka) hSW.2.2.2.1 b9 hS, fun U hU hW => ⟨rfl, by rw [hU], va_P.he hU.symm hPc, va_K.moved hW.alike hKc, hDc.weaken (fun _ _ _ _ => trivial), hSW.call hS hFc hW hU⟩⟩ rfl rfl hl.1 rfl (lv_room (Nat.le_of_ble_eq_true rfl)) d_CO_codeValue_101 ⟨(Nat.zero_le _), (Nat.zero_le _)⟩) hS (fun q _ h => hFc q h) hFc (fun r11 u t H1 locs ht hvm hw hB hz1 hk1 hS => ?_)
      try dsimp only at hw
      have xr11 := hw
      try clear hw
      obtain ⟨hP1, hK1, hD1⟩ := hB
      replace hP1 := va_P.he ht hP1
      obtain ⟨hP, hD⟩ := va_join (wr := (wz_205 h0 pr kn lt h0_localCount pe h0_pendingCount h0_gives h0_depth h0_loopDepth to bo cs se pr gl fu pa pf sf pk pg pp pz pv pr_reason pr_place pr_scanner_r pr_stepCount pr_open pr_twoSides pr_waiting_r pr_waitingPlaces_r pr_waitingCount pe cpe gpe kn tr kns knz knt knv kn_length kns ckns gkns knz cknz gknz knt cknt gknt knv cknv gknv tr tx tr_length tx ctx gtx pf cpf gpf pk cpk gpk pg cpg (fun j => (gpg j).map (sg sa)) pp cpp gpp pz cpz gpz pv cpv gpv gl tr gls glz glt glv gl_length gls cgls ggls glz cglz gglz glt cglt gglt fu tr fus fuz fut fuv fu_length fus cfus gfus fuz cfuz gfuz fut cfut gfut pa tr pas paz pat pav pa_length pat cpat gpat bo bob n10 bob cbob n9)) (w1 := []) hP hD [] [0, 1, 2, 3, 4, 5, 6, 7, 8, 9, 10, 11, 12, 13, 14, 15, 16, 17, 18, 19, 20, 21, 22, 23, 24, 25, 26, 27] rfl rfl (by decide) (by decide) hk1 hFc hP1 hD1
      clear hPc hDc hKc hFc hz1 hk1 hP1 hK1 hD1
      rename Heap => H
      have hP : va_P (dC, dI) cls (wz_205 h0 pr kn lt h0_localCount pe h0_pendingCount h0_gives h0_depth h0_loopDepth to bo cs se pr gl fu pa pf sf pk pg pp pz pv pr_reason pr_place pr_scanner_r pr_stepCount pr_open pr_twoSides pr_waiting_r pr_waitingPlaces_r pr_waitingCount pe cpe gpe kn tr kns knz knt knv kn_length kns ckns gkns knz cknz gknz knt cknt gknt knv cknv gknv tr tx tr_length tx ctx gtx pf cpf gpf pk cpk gpk pg cpg (fun j => (gpg j).map (sg sa)) pp cpp gpp pz cpz gpz pv cpv gpv gl tr gls glz glt glv gl_length gls cgls ggls glz cglz gglz glt cglt gglt fu tr fus fuz fut fuv fu_length fus cfus gfus fuz cfuz gfuz fut cfut gfut pa tr pas paz pat pav pa_length pat cpat gpat bo bob n10 bob cbob n9) H := hP
      have hD : va_D A (wz_205 h0 pr kn lt h0_localCount pe h0_pendingCount h0_gives h0_depth h0_loopDepth to bo cs se pr gl fu pa pf sf pk pg pp pz pv pr_reason pr_place pr_scanner_r pr_stepCount pr_open pr_twoSides pr_waiting_r pr_waitingPlaces_r pr_waitingCount pe cpe gpe kn tr kns knz knt knv kn_length kns ckns gkns knz cknz gknz knt cknt gknt knv cknv gknv tr tx tr_length tx ctx gtx pf cpf gpf pk cpk gpk pg cpg (fun j => (gpg j).map (sg sa)) pp cpp gpp pz cpz gpz pv cpv gpv gl tr gls glz glt glv gl_length gls cgls ggls glz cglz gglz glt cglt gglt fu tr fus fuz fut fuv fu_length fus cfus gfus fuz cfuz gfuz fut cfut gfut pa tr pas paz pat pav pa_length pat cpat gpat bo bob n10 bob cbob n9) := hD
      have hPc := hP.sb (wq := (wz_149 h0 pr kn lt h0_localCount pe h0_pendingCount h0_gives h0_depth h0_loopDepth to bo cs se pe cpe gpe)) [0, 2] rfl
      have hDc := hD.sb (wq := (wz_149 h0 pr kn lt h0_localCount pe h0_pendingCount h0_gives h0_depth h0_loopDepth to bo cs se pe cpe gpe)) [0, 2] (by decide) rfl
      have hKc := hK.sb (tyq := [(cpe, .int)]) [0] rfl
      have hFc := va_free (wc := (wz_149 h0 pr kn lt h0_localCount pe h0_pendingCount h0_gives h0_depth h0_loopDepth to bo cs se pe cpe gpe)) hD hS hA [0, 2] rfl
      refine va_callv (va_runV (As := [.int r11]) (rest := []) ⟨hx, hb, hml, hown, hts⟩ (c_CO_push l dC dI H.size h0 pr kn lt pe to bo cs se cpe h0_localCount h0_pendingCount h0_gives h0_depth h0_loopDepth gpe (b_h0_pendingCount) r11 (by (first | (apply Int.le_antisymm <;> omega) | omega))) (cwV 1 hts (gV kM_CO_183 kV_CO_push kS_CO_push kI_CO kC_CO_push) rfl rfl rfl (by decide +kernel) ⟨Nat.le_of_ble_eq_true rfl, Nat.le_of_ble_eq_true rfl⟩) ⟨fun a U g mk z => by obtain ⟨z0, z1, zP, zK, zD⟩ := z; exact ⟨z0, z1, zP, va_K.moved (u := U) (U := U.calling g mk a) (Vm.Alike.refl U.vm) zK, zD⟩, va_recv hKc hPc (ci := 2) (q0 := 0) rfl rfl, fun U hU hW => ⟨rfl, by rw [hU], va_P.he hU.symm hPc, va_K.moved hW.alike hKc, hDc.weaken (fun _ _ _ _ => trivial)⟩⟩ rfl rfl hl.1 rfl (lv_room (Nat.le_of_ble_eq_true rfl)) d_CO_codeValue_104 ⟨(Nat.zero_le _), (Nat.zero_le _)⟩) hS (fun q _ h => hFc q h) hFc (fun u t H1 locs ht hvm hw hB hz1 hk1 hS => ?_)
      obtain ⟨n13, n14⟩ := u
      try dsimp only at hw
      obtain ⟨bn14, xr12⟩ := hw
      try clear hw
      obtain ⟨hP1, hK1, hD1⟩ := hB
      replace hP1 := va_P.he ht hP1
      obtain ⟨hP, hD⟩ := va_join (wr := [(pr, .inr (6, [.ref gl, .ref fu, .ref pa, .ref pf, .ref sf, .ref pk, .ref pg, .ref pp, .ref pz, .ref pv, .int pr_reason, .int pr_place, .ref pr_scanner_r, .int pr_stepCount, .int pr_open, .int pr_twoSides, .ref pr_waiting_r, .ref pr_waitingPlaces_r, .int pr_waitingCount])), (kn, .inr (5, [.ref tr, .ref kns, .ref knz, .ref knt, .ref knv, .int kn_length])), (kns, .inl (ckns, 50, .inl gkns)), (knz, .inl (cknz, 50, .inl gknz)), (knt, .inl (cknt, 50, .inl gknt)), (knv, .inl (cknv, 50, .inr (.inl gknv))), (tr, .inr (1, [.ref tx, .int tr_length])), (tx, .inl (ctx, 2000, .inl gtx)), (pf, .inl (cpf, 21, .inl gpf)), (pk, .inl (cpk, 4100, .inl gpk)), (pg, .inl (cpg, 4100, .inr (.inr (.inr (.inr (fun j => (gpg j).map (sg sa))))))), (pp, .inl (cpp, 4100, .inl gpp)), (pz, .inl (cpz, 4100, .inl gpz)), (pv, .inl (cpv, 4100, .inr (.inl gpv))), (gl, .inr (5, [.ref tr, .ref gls, .ref glz, .ref glt, .ref glv, .int gl_length])), (gls, .inl (cgls, 20, .inl ggls)), (glz, .inl (cglz, 20, .inl gglz)), (glt, .inl (cglt, 20, .inl gglt)), (fu, .inr (5, [.ref tr, .ref fus, .ref fuz, .ref fut, .ref fuv, .int fu_length])), (fus, .inl (cfus, 20, .inl gfus)), (fuz, .inl (cfuz, 20, .inl gfuz)), (fut, .inl (cfut, 20, .inl gfut)), (pa, .inr (5, [.ref tr, .ref pas, .ref paz, .ref pat, .ref pav, .int pa_length])), (pat, .inl (cpat, 160, .inl gpat)), (bo, .inr (1, [.ref bob, .int n10])), (bob, .inl (cbob, 8192, .inl n9))]) (w1 := (wz_149 h0 pr kn lt h0_localCount pe n14 h0_gives h0_depth h0_loopDepth to bo cs se pe cpe n13)) hP hD [0, 2] [1, 3, 4, 5, 6, 7, 8, 9, 10, 11, 12, 13, 14, 15, 16, 17, 18, 19, 20, 21, 22, 23, 24, 25, 26, 27] rfl rfl (by decide) (by decide) hk1 hFc hP1 hD1
      clear hPc hDc hKc hFc hz1 hk1 hP1 hK1 hD1
      rename Heap => H
      have hP : va_P (dC, dI) cls [(pr, .inr (6, [.ref gl, .ref fu, .ref pa, .ref pf, .ref sf, .ref pk, .ref pg, .ref pp, .ref pz, .ref pv, .int pr_reason, .int pr_place, .ref pr_scanner_r, .int pr_stepCount, .int pr_open, .int pr_twoSides, .ref pr_waiting_r, .ref pr_waitingPlaces_r, .int pr_waitingCount])), (kn, .inr (5, [.ref tr, .ref kns, .ref knz, .ref knt, .ref knv, .int kn_length])), (kns, .inl (ckns, 50, .inl gkns)), (knz, .inl (cknz, 50, .inl gknz)), (knt, .inl (cknt, 50, .inl gknt)), (knv, .inl (cknv, 50, .inr (.inl gknv))), (tr, .inr (1, [.ref tx, .int tr_length])), (tx, .inl (ctx, 2000, .inl gtx)), (pf, .inl (cpf, 21, .inl gpf)), (pk, .inl (cpk, 4100, .inl gpk)), (pg, .inl (cpg, 4100, .inr (.inr (.inr (.inr (fun j => (gpg j).map (sg sa))))))), (pp, .inl (cpp, 4100, .inl gpp)), (pz, .inl (cpz, 4100, .inl gpz)), (pv, .inl (cpv, 4100, .inr (.inl gpv))), (gl, .inr (5, [.ref tr, .ref gls, .ref glz, .ref glt, .ref glv, .int gl_length])), (gls, .inl (cgls, 20, .inl ggls)), (glz, .inl (cglz, 20, .inl gglz)), (glt, .inl (cglt, 20, .inl gglt)), (fu, .inr (5, [.ref tr, .ref fus, .ref fuz, .ref fut, .ref fuv, .int fu_length])), (fus, .inl (cfus, 20, .inl gfus)), (fuz, .inl (cfuz, 20, .inl gfuz)), (fut, .inl (cfut, 20, .inl gfut)), (pa, .inr (5, [.ref tr, .ref pas, .ref paz, .ref pat, .ref pav, .int pa_length])), (pat, .inl (cpat, 160, .inl gpat)), (bo, .inr (1, [.ref bob, .int n10])), (bob, .inl (cbob, 8192, .inl n9)), (h0, .inr (2, [.ref pr, .ref kn, .ref lt, .int h0_localCount, .ref pe, .int n14, .int h0_gives, .int h0_depth, .int h0_loopDepth, .ref to, .ref bo, .ref cs, .ref se])), (pe, .inl (cpe, 680, .inl n13))] H := hP
      have hD : va_D A [(pr, .inr (6, [.ref gl, .ref fu, .ref pa, .ref pf, .ref sf, .ref pk, .ref pg, .ref pp, .ref pz, .ref pv, .int pr_reason, .int pr_place, .ref pr_scanner_r, .int pr_stepCount, .int pr_open, .int pr_twoSides, .ref pr_waiting_r, .ref pr_waitingPlaces_r, .int pr_waitingCount])), (kn, .inr (5, [.ref tr, .ref kns, .ref knz, .ref knt, .ref knv, .int kn_length])), (kns, .inl (ckns, 50, .inl gkns)), (knz, .inl (cknz, 50, .inl gknz)), (knt, .inl (cknt, 50, .inl gknt)), (knv, .inl (cknv, 50, .inr (.inl gknv))), (tr, .inr (1, [.ref tx, .int tr_length])), (tx, .inl (ctx, 2000, .inl gtx)), (pf, .inl (cpf, 21, .inl gpf)), (pk, .inl (cpk, 4100, .inl gpk)), (pg, .inl (cpg, 4100, .inr (.inr (.inr (.inr (fun j => (gpg j).map (sg sa))))))), (pp, .inl (cpp, 4100, .inl gpp)), (pz, .inl (cpz, 4100, .inl gpz)), (pv, .inl (cpv, 4100, .inr (.inl gpv))), (gl, .inr (5, [.ref tr, .ref gls, .ref glz, .ref glt, .ref glv, .int gl_length])), (gls, .inl (cgls, 20, .inl ggls)), (glz, .inl (cglz, 20, .inl gglz)), (glt, .inl (cglt, 20, .inl gglt)), (fu, .inr (5, [.ref tr, .ref fus, .ref fuz, .ref fut, .ref fuv, .int fu_length])), (fus, .inl (cfus, 20, .inl gfus)), (fuz, .inl (cfuz, 20, .inl gfuz)), (fut, .inl (cfut, 20, .inl gfut)), (pa, .inr (5, [.ref tr, .ref pas, .ref paz, .ref pat, .ref pav, .int pa_length])), (pat, .inl (cpat, 160, .inl gpat)), (bo, .inr (1, [.ref bob, .int n10])), (bob, .inl (cbob, 8192, .inl n9)), (h0, .inr (2, [.ref pr, .ref kn, .ref lt, .int h0_localCount, .ref pe, .int n14, .int h0_gives, .int h0_depth, .int h0_loopDepth, .ref to, .ref bo, .ref cs, .ref se])), (pe, .inl (cpe, 680, .inl n13))] := hD
      refine lv_goto (tgt := 228) hx hb d_CO_codeValue_107 (by decide) ?_
      have hP9 := hP.sb (wq := (wz_204 h0 pr kn lt h0_localCount pe n14 h0_gives h0_depth h0_loopDepth to bo cs se pr gl fu pa pf sf pk pg pp pz pv pr_reason pr_place pr_scanner_r pr_stepCount pr_open pr_twoSides pr_waiting_r pr_waitingPlaces_r pr_waitingCount pe cpe n13 bo bob n10 bob cbob n9 kn tr kns knz knt knv kn_length kns ckns gkns knz cknz gknz knt cknt gknt knv cknv gknv tr tx tr_length tx ctx gtx pf cpf gpf pk cpk gpk pg cpg (fun j => (gpg j).map (sg sa)) pp cpp gpp pz cpz gpz pv cpv gpv gl tr gls glz glt glv gl_length gls cgls ggls glz cglz gglz glt cglt gglt fu tr fus fuz fut fuv fu_length fus cfus gfus fuz cfuz gfuz fut cfut gfut pa tr pas paz pat pav pa_length pat cpat gpat)) [26, 0, 27, 24, 25, 1, 2, 3, 4, 5, 6, 7, 8, 9, 10, 11, 12, 13, 14, 15, 16, 17, 18, 19, 20, 21, 22, 23] rfl
      have hD9 := hD.sb (wq := (wz_204 h0 pr kn lt h0_localCount pe n14 h0_gives h0_depth h0_loopDepth to bo cs se pr gl fu pa pf sf pk pg pp pz pv pr_reason pr_place pr_scanner_r pr_stepCount pr_open pr_twoSides pr_waiting_r pr_waitingPlaces_r pr_waitingCount pe cpe n13 bo bob n10 bob cbob n9 kn tr kns knz knt knv kn_length kns ckns gkns knz cknz gknz knt cknt gknt knv cknv gknv tr tx tr_length tx ctx gtx pf cpf gpf pk cpk gpk pg cpg (fun j => (gpg j).map (sg sa)) pp cpp gpp pz cpz gpz pv cpv gpv gl tr gls glz glt glv gl_length gls cgls ggls glz cglz gglz glt cglt gglt fu tr fus fuz fut fuv fu_length fus cfus gfus fuz cfuz gfuz fut cfut gfut pa tr pas paz pat pav pa_length pat cpat gpat)) [26, 0, 27, 24, 25, 1, 2, 3, 4, 5, 6, 7, 8, 9, 10, 11, 12, 13, 14, 15, 16, 17, 18, 19, 20, 21, 22, 23] (by decide) rfl
      exact tz_up (fun _ => rfl) (W.vret hx hb hr (fun t ht hW => ⟨⟨(n9, n13, n10, n14, pr_place, pr_reason), ⟨rfl, ⟨by (try dsimp only) <;> (first | (apply Int.le_antisymm <;> omega) | omega), bn14, by (try dsimp only); rw [xr8.2, bn5 (by (first | (apply Int.le_antisymm <;> omega) | omega)), List.append_assoc]; exact cv_val (x := (j80_s0.toInt, (gpv p0.toNatClampNeg).toInt)) hI.out s9.2.2.2 (by have := i32_clamp (x := n14) (by (first | (apply Int.le_antisymm <;> omega) | omega)); (first | (apply Int.le_antisymm <;> omega) | omega)) xr12.2 (by (first | (apply Int.le_antisymm <;> omega) | omega)) (by dsimp only; (first | (apply Int.le_antisymm <;> omega) | omega)) (fun z => absurd z (by dsimp only; (first | (apply Int.le_antisymm <;> omega) | omega))) (fun z => absurd z (by dsimp only; (first | (apply Int.le_antisymm <;> omega) | omega))) (by rw [en_c (by (first | (apply Int.le_antisymm <;> omega) | omega)), bn_s (by (first | (apply Int.le_antisymm <;> omega) | omega)) (by (first | (apply Int.le_antisymm <;> omega) | omega)), ← ex7]; rfl) (by (first | (apply Int.le_antisymm <;> omega) | omega)) (by have := sleb_t s9.2.1 s9.1; rw [List.length_append, List.length_singleton, ex7]; have := s9.2.2.1; (first | (apply Int.le_antisymm <;> omega) | omega)) (iok_c x7 y80 s9.2.1 ex7)⟩⟩, va_P.he ht.symm hP9, va_K.moved hW.alike hK, hD9⟩, hS.F ht⟩) hS.2.2 d_CO_codeValue_228)
    · skip
      refine lv_icmp_ne (tgt := 78) hx hb d_CO_codeValue_70 (by decide) (fun c70 => ?_) (fun c70 => ?_)
      · have q70 := neI c70
        refine lv_bipush (v := 66) hx hb d_CO_codeValue_78 (by decide) ?_
        exact jn80 66 _ _ _ ⟨Or.inr (by decide), hP, hD, hS, lv_sub hl [1, 2, 0] rfl⟩
      · have q70 := eqI c70
        refine lv_bipush (v := 65) hx hb d_CO_codeValue_73 (by decide) ?_
        refine lv_goto (tgt := 80) hx hb d_CO_codeValue_75 (by decide) ?_
        exact jn80 65 _ _ _ ⟨Or.inl ⟨by decide, by have := s9.1; have := xr3.2; (first | (apply Int.le_antisymm <;> omega) | omega)⟩, hP, hD, hS, lv_sub hl [1, 2, 0] rfl⟩
  · skip
    by_cases g19_110 : x2.toInt = 1
    · have ho19 : tab_off 189 0 6 #[41, 91, 99, 107, 124, 155, 172] x2.toInt = 91 := by rw [g19_110]; rfl
      refine lv_tab (tgt := 110) hx hb d_CO_codeValue_19 (by decide) ho19 (by decide) ?_
      clear ho19
      have h9 : (gpk p0.toNatClampNeg).toInt = 1 := by rw [← ex2]; (first | (apply Int.le_antisymm <;> omega) | omega)
      have s9 := sI_1 hs.out h9
      have q2 : gS2.length = gS.length + 1 := by rw [s9.2.2.2, List.length_cons]
      have s92 := s9.2.1
      refine lv_aload_n hx hb d_CO_codeValue_110 rfl (lv_at hl 1 rfl) ?_
      refine lv_iload_n hx hb d_CO_codeValue_111 rfl (lv_at hl 2 rfl) ?_
      have hPc := hP.sb (wq := (wz_167 h0 pr kn lt h0_localCount pe h0_pendingCount h0_gives h0_depth h0_loopDepth to bo cs se pr gl fu pa pf sf pk pg pp pz pv pr_reason pr_place pr_scanner_r pr_stepCount pr_open pr_twoSides pr_waiting_r pr_waitingPlaces_r pr_waitingCount pe cpe gpe bo bob bo_length bob cbob gbob kn tr kns knz knt knv kn_length kns ckns gkns knz cknz gknz knt cknt gknt knv cknv gknv tr tx tr_length tx ctx gtx pp cpp gpp pz cpz gpz gl tr gls glz glt glv gl_length gls cgls ggls glz cglz gglz glt cglt gglt)) [0, 1, 2, 3, 4, 5, 6, 7, 8, 9, 10, 11, 15, 16, 18, 19, 20, 21] rfl
      have hDc := hD.sb (wq := (wz_167 h0 pr kn lt h0_localCount pe h0_pendingCount h0_gives h0_depth h0_loopDepth to bo cs se pr gl fu pa pf sf pk pg pp pz pv pr_reason pr_place pr_scanner_r pr_stepCount pr_open pr_twoSides pr_waiting_r pr_waitingPlaces_r pr_waitingCount pe cpe gpe bo bob bo_length bob cbob gbob kn tr kns knz knt knv kn_length kns ckns gkns knz cknz gknz knt cknt gknt knv cknv gknv tr tx tr_length tx ctx gtx pp cpp gpp pz cpz gpz gl tr gls glz glt glv gl_length gls cgls ggls glz cglz gglz glt cglt gglt)) [0, 1, 2, 3, 4, 5, 6, 7, 8, 9, 10, 11, 15, 16, 18, 19, 20, 21] (by decide) rfl
      have hKc := hK.sb (tyq := [(cpe, .int), (cbob, .byte), (ckns, .int), (cknz, .int), (cknt, .int), (cknv, .long), (ctx, .byte), (cpp, .int), (cpz, .int), (cgls, .int), (cglz, .int), (cglt, .int)]) [0, 1, 2, 3, 4, 5, 6, 10, 11, 13, 14, 15] rfl
      have hFc := va_free (wc := (wz_167 h0 pr kn lt h0_localCount pe h0_pendingCount h0_gives h0_depth h0_loopDepth to bo cs se pr gl fu pa pf sf pk pg pp pz pv pr_reason pr_place pr_scanner_r pr_stepCount pr_open pr_twoSides pr_waiting_r pr_waitingPlaces_r pr_waitingCount pe cpe gpe bo bob bo_length bob cbob gbob kn tr kns knz knt knv kn_length kns ckns gkns knz cknz gknz knt cknt gknt knv cknv gknv tr tx tr_length tx ctx gtx pp cpp gpp pz cpz gpz gl tr gls glz glt glv gl_length gls cgls ggls glz cglz gglz glt cglt gglt)) hD hS hA [0, 1, 2, 3, 4, 5, 6, 7, 8, 9, 10, 11, 15, 16, 18, 19, 20, 21] rfl
      refine tq_callv (tz_runV (As := [.int p0]) (rest := []) ⟨hx, hb, hml, hown, hts⟩ (c_CO_codeRead l hlt dC dI H.size sa h0 pr kn lt pe to bo cs se gl fu pa pf sf pk pg pp pz pv pr_scanner_r pr_waiting_r pr_waitingPlaces_r bob tr kns knz knt knv tx gls glz glt glv cpe cbob ckns cknz cknt cknv ctx cpp cpz cgls cglz cglt h0_localCount h0_pendingCount h0_gives h0_depth h0_loopDepth pr_reason pr_place pr_stepCount pr_open pr_twoSides pr_waitingCount gpe bo_length gbob kn_length gkns gknz gknt gknv tr_length gtx gpp gpz gl_length ggls gglz gglt (b_h0_localCount) (b_h0_pendingCount) (b_bo_length) (b_kn_length) (b_tr_length) (b_gl_length) p0 (by (first | (apply Int.le_antisymm <;> omega) | omega)) (by (first | (apply Int.le_antisymm <;> omega) | omega)) (hkq.out) (hgq.out) (by (first | (apply Int.le_antisymm <;> omega) | omega)) (by (first | (apply Int.le_antisymm <;> omega) | omega))) (cwV 1 hts (gV kM_CO_186 kV_CO_codeRead kS_CO_codeRead kI_CO kC_CO_codeRead) rfl rfl rfl (by decide +kernel) ⟨Nat.le_of_ble_eq_true rfl, Nat.le_of_ble_eq_true rfl⟩) ⟨fun a U g mk z => by obtain ⟨z0, z1, zP, zK, zD, zS⟩ := z; exact ⟨z0, z1, zP, va_K.moved (u := U) (U := U.calling g mk a) (Vm.Alike.refl U.vm) zK, zD, sw.same (u := U) (U := U.calling g mk a) rfl zS⟩, va_recv hKc hPc (ci := 2) (q0 := 0) rfl rfl, fun U hU hW => ⟨rfl, by rw [hU], va_P.he hU.symm hPc, va_K.moved hW.alike hKc, hDc.weaken (fun _ _ _ _ => trivial), hSW.call hS hFc hW hU⟩⟩ rfl rfl hl.1 rfl (lv_room (Nat.le_of_ble_eq_true rfl)) d_CO_codeValue_112 ⟨Nat.le_of_ble_eq_true rfl, Nat.le_of_ble_eq_true rfl⟩) hS (fun q _ h => hFc q h) hFc (fun u t H1 locs ht hvm hw hB hz1 hk1 hS => ?_) (fun xx u t H1 locs ht hvm hw hXX hB hz1 hk1 hS => ?_)
      rotate_left
      · skip
        obtain ⟨n16, n17, n18, n19, n20, n21⟩ := u
        try dsimp only at hw
        obtain ⟨bn18, bn19⟩ := hw
        obtain ⟨hP1, hK1, hD1⟩ := hB
        replace hP1 := va_P.he ht hP1
        obtain ⟨hP, hD⟩ := va_join (wr := [(pf, .inl (cpf, 21, .inl gpf)), (pk, .inl (cpk, 4100, .inl gpk)), (pg, .inl (cpg, 4100, .inr (.inr (.inr (.inr (fun j => (gpg j).map (sg sa))))))), (pv, .inl (cpv, 4100, .inr (.inl gpv))), (fu, .inr (5, [.ref tr, .ref fus, .ref fuz, .ref fut, .ref fuv, .int fu_length])), (fus, .inl (cfus, 20, .inl gfus)), (fuz, .inl (cfuz, 20, .inl gfuz)), (fut, .inl (cfut, 20, .inl gfut)), (pa, .inr (5, [.ref tr, .ref pas, .ref paz, .ref pat, .ref pav, .int pa_length])), (pat, .inl (cpat, 160, .inl gpat))]) (w1 := (wz_167 h0 pr kn lt h0_localCount pe n19 h0_gives h0_depth h0_loopDepth to bo cs se pr gl fu pa pf sf pk pg pp pz pv n21 n20 pr_scanner_r pr_stepCount pr_open pr_twoSides pr_waiting_r pr_waitingPlaces_r pr_waitingCount pe cpe n17 bo bob n18 bob cbob n16 kn tr kns knz knt knv kn_length kns ckns gkns knz cknz gknz knt cknt gknt knv cknv gknv tr tx tr_length tx ctx gtx pp cpp gpp pz cpz gpz gl tr gls glz glt glv gl_length gls cgls ggls glz cglz gglz glt cglt gglt)) hP hD [0, 1, 2, 3, 4, 5, 6, 7, 8, 9, 10, 11, 15, 16, 18, 19, 20, 21] [12, 13, 14, 17, 22, 23, 24, 25, 26, 27] rfl rfl (by decide) (by decide) hk1 hFc hP1 hD1
        have hP : va_P (dC, dI) cls (wz_206 pf cpf gpf pk cpk gpk pg cpg (fun j => (gpg j).map (sg sa)) pv cpv gpv fu tr fus fuz fut fuv fu_length fus cfus gfus fuz cfuz gfuz fut cfut gfut pa tr pas paz pat pav pa_length pat cpat gpat h0 pr kn lt h0_localCount pe n19 h0_gives h0_depth h0_loopDepth to bo cs se pr gl fu pa pf sf pk pg pp pz pv n21 n20 pr_scanner_r pr_stepCount pr_open pr_twoSides pr_waiting_r pr_waitingPlaces_r pr_waitingCount pe cpe n17 bo bob n18 bob cbob n16 kn tr kns knz knt knv kn_length kns ckns gkns knz cknz gknz knt cknt gknt knv cknv gknv tr tx tr_length tx ctx gtx pp cpp gpp pz cpz gpz gl tr gls glz glt glv gl_length gls cgls ggls glz cglz gglz glt cglt gglt) H1 := hP
        have hD : va_D A (wz_206 pf cpf gpf pk cpk gpk pg cpg (fun j => (gpg j).map (sg sa)) pv cpv gpv fu tr fus fuz fut fuv fu_length fus cfus gfus fuz cfuz gfuz fut cfut gfut pa tr pas paz pat pav pa_length pat cpat gpat h0 pr kn lt h0_localCount pe n19 h0_gives h0_depth h0_loopDepth to bo cs se pr gl fu pa pf sf pk pg pp pz pv n21 n20 pr_scanner_r pr_stepCount pr_open pr_twoSides pr_waiting_r pr_waitingPlaces_r pr_waitingCount pe cpe n17 bo bob n18 bob cbob n16 kn tr kns knz knt knv kn_length kns ckns gkns knz cknz gknz knt cknt gknt knv cknv gknv tr tx tr_length tx ctx gtx pp cpp gpp pz cpz gpz gl tr gls glz glt glv gl_length gls cgls ggls glz cglz gglz glt cglt gglt) := hD
        have hP9 := hP.sb (wq := (wz_204 h0 pr kn lt h0_localCount pe n19 h0_gives h0_depth h0_loopDepth to bo cs se pr gl fu pa pf sf pk pg pp pz pv n21 n20 pr_scanner_r pr_stepCount pr_open pr_twoSides pr_waiting_r pr_waitingPlaces_r pr_waitingCount pe cpe n17 bo bob n18 bob cbob n16 kn tr kns knz knt knv kn_length kns ckns gkns knz cknz gknz knt cknt gknt knv cknv gknv tr tx tr_length tx ctx gtx pf cpf gpf pk cpk gpk pg cpg (fun j => (gpg j).map (sg sa)) pp cpp gpp pz cpz gpz pv cpv gpv gl tr gls glz glt glv gl_length gls cgls ggls glz cglz gglz glt cglt gglt fu tr fus fuz fut fuv fu_length fus cfus gfus fuz cfuz gfuz fut cfut gfut pa tr pas paz pat pav pa_length pat cpat gpat)) [10, 11, 12, 13, 14, 15, 16, 17, 18, 19, 20, 21, 0, 1, 2, 22, 23, 3, 24, 25, 26, 27, 4, 5, 6, 7, 8, 9] rfl
        have hD9 := hD.sb (wq := (wz_204 h0 pr kn lt h0_localCount pe n19 h0_gives h0_depth h0_loopDepth to bo cs se pr gl fu pa pf sf pk pg pp pz pv n21 n20 pr_scanner_r pr_stepCount pr_open pr_twoSides pr_waiting_r pr_waitingPlaces_r pr_waitingCount pe cpe n17 bo bob n18 bob cbob n16 kn tr kns knz knt knv kn_length kns ckns gkns knz cknz gknz knt cknt gknt knv cknv gknv tr tx tr_length tx ctx gtx pf cpf gpf pk cpk gpk pg cpg (fun j => (gpg j).map (sg sa)) pp cpp gpp pz cpz gpz pv cpv gpv gl tr gls glz glt glv gl_length gls cgls ggls glz cglz gglz glt cglt gglt fu tr fus fuz fut fuv fu_length fus cfus gfus fuz cfuz gfuz fut cfut gfut pa tr pas paz pat pav pa_length pat cpat gpat)) [10, 11, 12, 13, 14, 15, 16, 17, 18, 19, 20, 21, 0, 1, 2, 22, 23, 3, 24, 25, 26, 27, 4, 5, 6, 7, 8, 9] (by decide) rfl
        exact tz_leave rfl hno hlocks (fun t ht hW => ⟨⟨(n16, n17, n18, n19, n20, n21), ⟨⟨bn18, bn19⟩, by rw [ht]; exact hXX.moved hW.alike⟩, va_P.he ht.symm hP9, va_K.moved hW.alike hK, hD9⟩, hS.F ht⟩) hS.2.2
      obtain ⟨n22, n23, n24, n25, n26, n27⟩ := u
      try dsimp only at hw
      obtain ⟨bn24, bn25, xr15⟩ := hw
      try clear hw
      obtain ⟨hP1, hK1, hD1⟩ := hB
      replace hP1 := va_P.he ht hP1
      obtain ⟨hP, hD⟩ := va_join (wr := [(pf, .inl (cpf, 21, .inl gpf)), (pk, .inl (cpk, 4100, .inl gpk)), (pg, .inl (cpg, 4100, .inr (.inr (.inr (.inr (fun j => (gpg j).map (sg sa))))))), (pv, .inl (cpv, 4100, .inr (.inl gpv))), (fu, .inr (5, [.ref tr, .ref fus, .ref fuz, .ref fut, .ref fuv, .int fu_length])), (fus, .inl (cfus, 20, .inl gfus)), (fuz, .inl (cfuz, 20, .inl gfuz)), (fut, .inl (cfut, 20, .inl gfut)), (pa, .inr (5, [.ref tr, .ref pas, .ref paz, .ref pat, .ref pav, .int pa_length])), (pat, .inl (cpat, 160, .inl gpat))]) (w1 := (wz_167 h0 pr kn lt h0_localCount pe n25 h0_gives h0_depth h0_loopDepth to bo cs se pr gl fu pa pf sf pk pg pp pz pv n27 n26 pr_scanner_r pr_stepCount pr_open pr_twoSides pr_waiting_r pr_waitingPlaces_r pr_waitingCount pe cpe n23 bo bob n24 bob cbob n22 kn tr kns knz knt knv kn_length kns ckns gkns knz cknz gknz knt cknt gknt knv cknv gknv tr tx tr_length tx ctx gtx pp cpp gpp pz cpz gpz gl tr gls glz glt glv gl_length gls cgls ggls glz cglz gglz glt cglt gglt)) hP hD [0, 1, 2, 3, 4, 5, 6, 7, 8, 9, 10, 11, 15, 16, 18, 19, 20, 21] [12, 13, 14, 17, 22, 23, 24, 25, 26, 27] rfl rfl (by decide) (by decide) hk1 hFc hP1 hD1
      clear hPc hDc hKc hFc hz1 hk1 hP1 hK1 hD1
      rename Heap => H
      have hP : va_P (dC, dI) cls (wz_206 pf cpf gpf pk cpk gpk pg cpg (fun j => (gpg j).map (sg sa)) pv cpv gpv fu tr fus fuz fut fuv fu_length fus cfus gfus fuz cfuz gfuz fut cfut gfut pa tr pas paz pat pav pa_length pat cpat gpat h0 pr kn lt h0_localCount pe n25 h0_gives h0_depth h0_loopDepth to bo cs se pr gl fu pa pf sf pk pg pp pz pv n27 n26 pr_scanner_r pr_stepCount pr_open pr_twoSides pr_waiting_r pr_waitingPlaces_r pr_waitingCount pe cpe n23 bo bob n24 bob cbob n22 kn tr kns knz knt knv kn_length kns ckns gkns knz cknz gknz knt cknt gknt knv cknv gknv tr tx tr_length tx ctx gtx pp cpp gpp pz cpz gpz gl tr gls glz glt glv gl_length gls cgls ggls glz cglz gglz glt cglt gglt) H := hP
      have hD : va_D A (wz_206 pf cpf gpf pk cpk gpk pg cpg (fun j => (gpg j).map (sg sa)) pv cpv gpv fu tr fus fuz fut fuv fu_length fus cfus gfus fuz cfuz gfuz fut cfut gfut pa tr pas paz pat pav pa_length pat cpat gpat h0 pr kn lt h0_localCount pe n25 h0_gives h0_depth h0_loopDepth to bo cs se pr gl fu pa pf sf pk pg pp pz pv n27 n26 pr_scanner_r pr_stepCount pr_open pr_twoSides pr_waiting_r pr_waitingPlaces_r pr_waitingCount pe cpe n23 bo bob n24 bob cbob n22 kn tr kns knz knt knv kn_length kns ckns gkns knz cknz gknz knt cknt gknt knv cknv gknv tr tx tr_length tx ctx gtx pp cpp gpp pz cpz gpz gl tr gls glz glt glv gl_length gls cgls ggls glz cglz gglz glt cglt gglt) := hD
      refine lv_goto (tgt := 228) hx hb d_CO_codeValue_115 (by decide) ?_
      have hP9 := hP.sb (wq := (wz_204 h0 pr kn lt h0_localCount pe n25 h0_gives h0_depth h0_loopDepth to bo cs se pr gl fu pa pf sf pk pg pp pz pv n27 n26 pr_scanner_r pr_stepCount pr_open pr_twoSides pr_waiting_r pr_waitingPlaces_r pr_waitingCount pe cpe n23 bo bob n24 bob cbob n22 kn tr kns knz knt knv kn_length kns ckns gkns knz cknz gknz knt cknt gknt knv cknv gknv tr tx tr_length tx ctx gtx pf cpf gpf pk cpk gpk pg cpg (fun j => (gpg j).map (sg sa)) pp cpp gpp pz cpz gpz pv cpv gpv gl tr gls glz glt glv gl_length gls cgls ggls glz cglz gglz glt cglt gglt fu tr fus fuz fut fuv fu_length fus cfus gfus fuz cfuz gfuz fut cfut gfut pa tr pas paz pat pav pa_length pat cpat gpat)) [10, 11, 12, 13, 14, 15, 16, 17, 18, 19, 20, 21, 0, 1, 2, 22, 23, 3, 24, 25, 26, 27, 4, 5, 6, 7, 8, 9] rfl
      have hD9 := hD.sb (wq := (wz_204 h0 pr kn lt h0_localCount pe n25 h0_gives h0_depth h0_loopDepth to bo cs se pr gl fu pa pf sf pk pg pp pz pv n27 n26 pr_scanner_r pr_stepCount pr_open pr_twoSides pr_waiting_r pr_waitingPlaces_r pr_waitingCount pe cpe n23 bo bob n24 bob cbob n22 kn tr kns knz knt knv kn_length kns ckns gkns knz cknz gknz knt cknt gknt knv cknv gknv tr tx tr_length tx ctx gtx pf cpf gpf pk cpk gpk pg cpg (fun j => (gpg j).map (sg sa)) pp cpp gpp pz cpz gpz pv cpv gpv gl tr gls glz glt glv gl_length gls cgls ggls glz cglz gglz glt cglt gglt fu tr fus fuz fut fuv fu_length fus cfus gfus fuz cfuz gfuz fut cfut gfut pa tr pas paz pat pav pa_length pat cpat gpat)) [10, 11, 12, 13, 14, 15, 16, 17, 18, 19, 20, 21, 0, 1, 2, 22, 23, 3, 24, 25, 26, 27, 4, 5, 6, 7, 8, 9] (by decide) rfl
      exact tz_up (fun _ => rfl) (W.vret hx hb hr (fun t ht hW => ⟨⟨(n22, n23, n24, n25, n26, n27), ⟨rfl, ⟨bn24, bn25, by (try dsimp only); obtain ⟨y1, y, op, vv, y2, y3, y4, y5, y6⟩ := xr15; rw [y6, s9.2.2.1]; exact cv_val (x := (op, vv)) hI.out s9.2.2.2 (by have := i32_clamp (x := n25) (by (first | (apply Int.le_antisymm <;> omega) | omega)); (first | (apply Int.le_antisymm <;> omega) | omega)) y2 y3 (by dsimp only; (first | (apply Int.le_antisymm <;> omega) | omega)) (fun z => by dsimp only at z ⊢; (first | (apply Int.le_antisymm <;> omega) | omega)) (fun z => by dsimp only at z ⊢; (first | (apply Int.le_antisymm <;> omega) | omega)) (en_u (by (first | (apply Int.le_antisymm <;> omega) | omega)) (by (first | (apply Int.le_antisymm <;> omega) | omega)) (by (first | (apply Int.le_antisymm <;> omega) | omega))).symm (by (first | (apply Int.le_antisymm <;> omega) | omega)) (by simp) (Or.inr (Or.inr (Or.inr (Or.inl ⟨by dsimp only; (first | (apply Int.le_antisymm <;> omega) | omega), by dsimp only; (first | (apply Int.le_antisymm <;> omega) | omega), by dsimp only; (first | (apply Int.le_antisymm <;> omega) | omega)⟩))))⟩⟩, va_P.he ht.symm hP9, va_K.moved hW.alike hK, hD9⟩, hS.F ht⟩) hS.2.2 d_CO_codeValue_228)
    · skip
      by_cases g19_118 : x2.toInt = 2
      · have ho19 : tab_off 189 0 6 #[41, 91, 99, 107, 124, 155, 172] x2.toInt = 99 := by rw [g19_118]; rfl
        refine lv_tab (tgt := 118) hx hb d_CO_codeValue_19 (by decide) ho19 (by decide) ?_
        clear ho19
        have h9 : (gpk p0.toNatClampNeg).toInt = 2 := by rw [← ex2]; (first | (apply Int.le_antisymm <;> omega) | omega)
        have s9 := sI_2 hs.out h9
        refine lv_aload_n hx hb d_CO_codeValue_118 rfl (lv_at hl 1 rfl) ?_
        refine lv_aload_n hx hb d_CO_codeValue_119 rfl (lv_at hl 0 rfl) ?_
        have hPc := hP.sb (wq := (wz_158 h0 pr kn lt h0_localCount pe h0_pendingCount h0_gives h0_depth h0_loopDepth to bo cs se bo bob bo_length bob cbob gbob)) [0, 3, 4] rfl
        have hDc := hD.sb (wq := (wz_158 h0 pr kn lt h0_localCount pe h0_pendingCount h0_gives h0_depth h0_loopDepth to bo cs se bo bob bo_length bob cbob gbob)) [0, 3, 4] (by decide) rfl
        have hKc := hK.sb (tyq := [(cbob, .byte)]) [1] rfl
        have hFc := va_free (wc := (wz_158 h0 pr kn lt h0_localCount pe h0_pendingCount h0_gives h0_depth h0_loopDepth to bo cs se bo bob bo_length bob cbob gbob)) hD hS hA [0, 3, 4] rfl
        refine va_callv (va_runV (As := [.ref (sg sa ka)]) (rest := []) ⟨hx, hb, hml, hown, hts⟩ (c_CO_codeHalfway l dC dI H.size sa h0 pr kn lt pe to bo cs se bob cbob h0_localCount h0_pendingCount h0_gives h0_depth h0_loopDepth bo_length gbob (b_bo_length) ka (b9) (by (first | (apply Int.le_antisymm <;> omega) | omega))) (cwV 1 hts (gV kM_CO_189 kV_CO_codeHalfway kS_CO_codeHalfway kI_CO kC_CO_codeHalfway) rfl rfl rfl (by decide +kernel) ⟨Nat.le_of_ble_eq_true rfl, Nat.le_of_ble_eq_true rfl⟩) ⟨fun a U g mk z => by obtain ⟨z0, z1, zP, zK, zD, zS⟩ := z; exact ⟨z0, z1, zP, va_K.moved (u := U) (U := U.calling g mk a) (Vm.Alike.refl U.vm) zK, zD, sw.same (u := U) (U := U.calling g mk a) rfl zS⟩, va_recv hKc hPc (ci := 2) (q0 := 0) rfl rfl, fun U hU hW => ⟨rfl, by rw [hU], va_P.he hU.symm hPc, va_K.moved hW.alike hKc, hDc.weaken (fun _ _ _ _ => trivial), hSW.call hS hFc hW hU⟩⟩ rfl rfl hl.1 rfl (lv_room (Nat.le_of_ble_eq_true rfl)) d_CO_codeValue_120 ⟨(Nat.zero_le _), (Nat.zero_le _)⟩) hS (fun q _ h => hFc q h) hFc (fun u t H1 locs ht hvm hw hB hz1 hk1 hS => ?_)
        obtain ⟨n29, n30⟩ := u
        try dsimp only at hw
        obtain ⟨bn30, xr28⟩ := hw
        try clear hw
        obtain ⟨hP1, hK1, hD1⟩ := hB
        replace hP1 := va_P.he ht hP1
        obtain ⟨hP, hD⟩ := va_join (wr := [(pr, .inr (6, [.ref gl, .ref fu, .ref pa, .ref pf, .ref sf, .ref pk, .ref pg, .ref pp, .ref pz, .ref pv, .int pr_reason, .int pr_place, .ref pr_scanner_r, .int pr_stepCount, .int pr_open, .int pr_twoSides, .ref pr_waiting_r, .ref pr_waitingPlaces_r, .int pr_waitingCount])), (pe, .inl (cpe, 680, .inl gpe)), (kn, .inr (5, [.ref tr, .ref kns, .ref knz, .ref knt, .ref knv, .int kn_length])), (kns, .inl (ckns, 50, .inl gkns)), (knz, .inl (cknz, 50, .inl gknz)), (knt, .inl (cknt, 50, .inl gknt)), (knv, .inl (cknv, 50, .inr (.inl gknv))), (tr, .inr (1, [.ref tx, .int tr_length])), (tx, .inl (ctx, 2000, .inl gtx)), (pf, .inl (cpf, 21, .inl gpf)), (pk, .inl (cpk, 4100, .inl gpk)), (pg, .inl (cpg, 4100, .inr (.inr (.inr (.inr (fun j => (gpg j).map (sg sa))))))), (pp, .inl (cpp, 4100, .inl gpp)), (pz, .inl (cpz, 4100, .inl gpz)), (pv, .inl (cpv, 4100, .inr (.inl gpv))), (gl, .inr (5, [.ref tr, .ref gls, .ref glz, .ref glt, .ref glv, .int gl_length])), (gls, .inl (cgls, 20, .inl ggls)), (glz, .inl (cglz, 20, .inl gglz)), (glt, .inl (cglt, 20, .inl gglt)), (fu, .inr (5, [.ref tr, .ref fus, .ref fuz, .ref fut, .ref fuv, .int fu_length])), (fus, .inl (cfus, 20, .inl gfus)), (fuz, .inl (cfuz, 20, .inl gfuz)), (fut, .inl (cfut, 20, .inl gfut)), (pa, .inr (5, [.ref tr, .ref pas, .ref paz, .ref pat, .ref pav, .int pa_length])), (pat, .inl (cpat, 160, .inl gpat))]) (w1 := (wz_158 h0 pr kn lt h0_localCount pe h0_pendingCount h0_gives h0_depth h0_loopDepth to bo cs se bo bob n30 bob cbob n29)) hP hD [0, 3, 4] [1, 2, 5, 6, 7, 8, 9, 10, 11, 12, 13, 14, 15, 16, 17, 18, 19, 20, 21, 22, 23, 24, 25, 26, 27] rfl rfl (by decide) (by decide) hk1 hFc hP1 hD1
        clear hPc hDc hKc hFc hz1 hk1 hP1 hK1 hD1
        rename Heap => H
        have hP : va_P (dC, dI) cls [(pr, .inr (6, [.ref gl, .ref fu, .ref pa, .ref pf, .ref sf, .ref pk, .ref pg, .ref pp, .ref pz, .ref pv, .int pr_reason, .int pr_place, .ref pr_scanner_r, .int pr_stepCount, .int pr_open, .int pr_twoSides, .ref pr_waiting_r, .ref pr_waitingPlaces_r, .int pr_waitingCount])), (pe, .inl (cpe, 680, .inl gpe)), (kn, .inr (5, [.ref tr, .ref kns, .ref knz, .ref knt, .ref knv, .int kn_length])), (kns, .inl (ckns, 50, .inl gkns)), (knz, .inl (cknz, 50, .inl gknz)), (knt, .inl (cknt, 50, .inl gknt)), (knv, .inl (cknv, 50, .inr (.inl gknv))), (tr, .inr (1, [.ref tx, .int tr_length])), (tx, .inl (ctx, 2000, .inl gtx)), (pf, .inl (cpf, 21, .inl gpf)), (pk, .inl (cpk, 4100, .inl gpk)), (pg, .inl (cpg, 4100, .inr (.inr (.inr (.inr (fun j => (gpg j).map (sg sa))))))), (pp, .inl (cpp, 4100, .inl gpp)), (pz, .inl (cpz, 4100, .inl gpz)), (pv, .inl (cpv, 4100, .inr (.inl gpv))), (gl, .inr (5, [.ref tr, .ref gls, .ref glz, .ref glt, .ref glv, .int gl_length])), (gls, .inl (cgls, 20, .inl ggls)), (glz, .inl (cglz, 20, .inl gglz)), (glt, .inl (cglt, 20, .inl gglt)), (fu, .inr (5, [.ref tr, .ref fus, .ref fuz, .ref fut, .ref fuv, .int fu_length])), (fus, .inl (cfus, 20, .inl gfus)), (fuz, .inl (cfuz, 20, .inl gfuz)), (fut, .inl (cfut, 20, .inl gfut)), (pa, .inr (5, [.ref tr, .ref pas, .ref paz, .ref pat, .ref pav, .int pa_length])), (pat, .inl (cpat, 160, .inl gpat)), (h0, .inr (2, [.ref pr, .ref kn, .ref lt, .int h0_localCount, .ref pe, .int h0_pendingCount, .int h0_gives, .int h0_depth, .int h0_loopDepth, .ref to, .ref bo, .ref cs, .ref se])), (bo, .inr (1, [.ref bob, .int n30])), (bob, .inl (cbob, 8192, .inl n29))] H := hP
        have hD : va_D A [(pr, .inr (6, [.ref gl, .ref fu, .ref pa, .ref pf, .ref sf, .ref pk, .ref pg, .ref pp, .ref pz, .ref pv, .int pr_reason, .int pr_place, .ref pr_scanner_r, .int pr_stepCount, .int pr_open, .int pr_twoSides, .ref pr_waiting_r, .ref pr_waitingPlaces_r, .int pr_waitingCount])), (pe, .inl (cpe, 680, .inl gpe)), (kn, .inr (5, [.ref tr, .ref kns, .ref knz, .ref knt, .ref knv, .int kn_length])), (kns, .inl (ckns, 50, .inl gkns)), (knz, .inl (cknz, 50, .inl gknz)), (knt, .inl (cknt, 50, .inl gknt)), (knv, .inl (cknv, 50, .inr (.inl gknv))), (tr, .inr (1, [.ref tx, .int tr_length])), (tx, .inl (ctx, 2000, .inl gtx)), (pf, .inl (cpf, 21, .inl gpf)), (pk, .inl (cpk, 4100, .inl gpk)), (pg, .inl (cpg, 4100, .inr (.inr (.inr (.inr (fun j => (gpg j).map (sg sa))))))), (pp, .inl (cpp, 4100, .inl gpp)), (pz, .inl (cpz, 4100, .inl gpz)), (pv, .inl (cpv, 4100, .inr (.inl gpv))), (gl, .inr (5, [.ref tr, .ref gls, .ref glz, .ref glt, .ref glv, .int gl_length])), (gls, .inl (cgls, 20, .inl ggls)), (glz, .inl (cglz, 20, .inl gglz)), (glt, .inl (cglt, 20, .inl gglt)), (fu, .inr (5, [.ref tr, .ref fus, .ref fuz, .ref fut, .ref fuv, .int fu_length])), (fus, .inl (cfus, 20, .inl gfus)), (fuz, .inl (cfuz, 20, .inl gfuz)), (fut, .inl (cfut, 20, .inl gfut)), (pa, .inr (5, [.ref tr, .ref pas, .ref paz, .ref pat, .ref pav, .int pa_length])), (pat, .inl (cpat, 160, .inl gpat)), (h0, .inr (2, [.ref pr, .ref kn, .ref lt, .int h0_localCount, .ref pe, .int h0_pendingCount, .int h0_gives, .int h0_depth, .int h0_loopDepth, .ref to, .ref bo, .ref cs, .ref se])), (bo, .inr (1, [.ref bob, .int n30])), (bob, .inl (cbob, 8192, .inl n29))] := hD
        refine lv_goto (tgt := 228) hx hb d_CO_codeValue_123 (by decide) ?_
        have hP9 := hP.sb (wq := (wz_204 h0 pr kn lt h0_localCount pe h0_pendingCount h0_gives h0_depth h0_loopDepth to bo cs se pr gl fu pa pf sf pk pg pp pz pv pr_reason pr_place pr_scanner_r pr_stepCount pr_open pr_twoSides pr_waiting_r pr_waitingPlaces_r pr_waitingCount pe cpe gpe bo bob n30 bob cbob n29 kn tr kns knz knt knv kn_length kns ckns gkns knz cknz gknz knt cknt gknt knv cknv gknv tr tx tr_length tx ctx gtx pf cpf gpf pk cpk gpk pg cpg (fun j => (gpg j).map (sg sa)) pp cpp gpp pz cpz gpz pv cpv gpv gl tr gls glz glt glv gl_length gls cgls ggls glz cglz gglz glt cglt gglt fu tr fus fuz fut fuv fu_length fus cfus gfus fuz cfuz gfuz fut cfut gfut pa tr pas paz pat pav pa_length pat cpat gpat)) [25, 0, 1, 26, 27, 2, 3, 4, 5, 6, 7, 8, 9, 10, 11, 12, 13, 14, 15, 16, 17, 18, 19, 20, 21, 22, 23, 24] rfl
        have hD9 := hD.sb (wq := (wz_204 h0 pr kn lt h0_localCount pe h0_pendingCount h0_gives h0_depth h0_loopDepth to bo cs se pr gl fu pa pf sf pk pg pp pz pv pr_reason pr_place pr_scanner_r pr_stepCount pr_open pr_twoSides pr_waiting_r pr_waitingPlaces_r pr_waitingCount pe cpe gpe bo bob n30 bob cbob n29 kn tr kns knz knt knv kn_length kns ckns gkns knz cknz gknz knt cknt gknt knv cknv gknv tr tx tr_length tx ctx gtx pf cpf gpf pk cpk gpk pg cpg (fun j => (gpg j).map (sg sa)) pp cpp gpp pz cpz gpz pv cpv gpv gl tr gls glz glt glv gl_length gls cgls ggls glz cglz gglz glt cglt gglt fu tr fus fuz fut fuv fu_length fus cfus gfus fuz cfuz gfuz fut cfut gfut pa tr pas paz pat pav pa_length pat cpat gpat)) [25, 0, 1, 26, 27, 2, 3, 4, 5, 6, 7, 8, 9, 10, 11, 12, 13, 14, 15, 16, 17, 18, 19, 20, 21, 22, 23, 24] (by decide) rfl
        exact tz_up (fun _ => rfl) (W.vret hx hb hr (fun t ht hW => ⟨⟨(n29, gpe, n30, h0_pendingCount, pr_place, pr_reason), ⟨rfl, ⟨bn30, b_h0_pendingCount, by (try dsimp only); by_cases q9 : ka = 36; (rw [(xr28.1 q9).2]; exact cv_half hI.out s9 (fun _ => rfl) (fun z => absurd q9 z) hl2.2); (rw [(xr28.2 q9).2]; exact cv_half hI.out s9 (fun z => absurd z q9) (fun _ => rfl) hl2.2)⟩⟩, va_P.he ht.symm hP9, va_K.moved hW.alike hK, hD9⟩, hS.F ht⟩) hS.2.2 d_CO_codeValue_228)
      · skip
        by_cases g19_126 : x2.toInt = 3
        · have ho19 : tab_off 189 0 6 #[41, 91, 99, 107, 124, 155, 172] x2.toInt = 107 := by rw [g19_126]; rfl
          refine lv_tab (tgt := 126) hx hb d_CO_codeValue_19 (by decide) ho19 (by decide) ?_
          clear ho19
          have h9 : (gpk p0.toNatClampNeg).toInt = 3 := by rw [← ex2]; (first | (apply Int.le_antisymm <;> omega) | omega)
          have s9 := sI_3 hs.out h9
          have t0 := cv_two0 hI.out s9
          have kk : 36 ≤ ka := by obtain ⟨T8, -, s8⟩ := s9; clear hI hs; (first | (apply Int.le_antisymm <;> omega) | omega)
          refine lv_aload_n hx hb d_CO_codeValue_126 rfl (lv_at hl 1 rfl) ?_
          refine lv_aload_n hx hb d_CO_codeValue_127 rfl (lv_at hl 0 rfl) ?_
          refine lv_aload_n hx hb d_CO_codeValue_128 rfl (lv_at hl 1 rfl) ?_
          refine va_get (D := (dC, dI)) (ci := 2) (v := .ref pr) (C := R_CO) (T := F_CO) (N := 13) hx hb hts i_CO hown hK hP 0 rfl rfl 0 (by decide) (hts _ kF_CO_36) (fun _ h9 => h9) rfl d_CO_codeValue_129 ?_
          refine va_get (D := (dC, dI)) (ci := 6) (v := .ref pp) (C := R_PR) (T := F_PR) (N := 19) hx hb hts i_PR hown hK hP 1 rfl rfl 7 (by decide) (hts _ kF_CO_193) (fun _ h9 => h9) rfl d_CO_codeValue_132 ?_
          refine lv_iload_n hx hb d_CO_codeValue_135 rfl (lv_at hl 2 rfl) ?_
          have g136 : vp_in p0 4100 := vp_in_iff.mpr ⟨by (first | (apply Int.le_antisymm <;> omega) | omega), by (first | (apply Int.le_antisymm <;> omega) | omega)⟩
          refine va_iald hx hb hK hP 15 10 rfl rfl g136 d_CO_codeValue_136 ?_
          refine lv_topi (fun x31 ex31 => ?_)
          have hPc := hP.sb (wq := (wz_160 h0 pr kn lt h0_localCount pe h0_pendingCount h0_gives h0_depth h0_loopDepth to bo cs se pr gl fu pa pf sf pk pg pp pz pv pr_reason pr_place pr_scanner_r pr_stepCount pr_open pr_twoSides pr_waiting_r pr_waitingPlaces_r pr_waitingCount pe cpe gpe bo bob bo_length bob cbob gbob)) [0, 1, 2, 3, 4] rfl
          have hDc := hD.sb (wq := (wz_160 h0 pr kn lt h0_localCount pe h0_pendingCount h0_gives h0_depth h0_loopDepth to bo cs se pr gl fu pa pf sf pk pg pp pz pv pr_reason pr_place pr_scanner_r pr_stepCount pr_open pr_twoSides pr_waiting_r pr_waitingPlaces_r pr_waitingCount pe cpe gpe bo bob bo_length bob cbob gbob)) [0, 1, 2, 3, 4] (by decide) rfl
          have hKc := hK.sb (tyq := [(cpe, .int), (cbob, .byte)]) [0, 1] rfl
          have hFc := va_free (wc := (wz_160 h0 pr kn lt h0_localCount pe h0_pendingCount h0_gives h0_depth h0_loopDepth to bo cs se pr gl fu pa pf sf pk pg pp pz pv pr_reason pr_place pr_scanner_r pr_stepCount pr_open pr_twoSides pr_waiting_r pr_waitingPlaces_r pr_waitingCount pe cpe gpe bo bob bo_length bob cbob gbob)) hD hS hA [0, 1, 2, 3, 4] rfl
          refine tq_callv (tz_runV (As := [.ref (sg sa ka), .int x31]) (rest := []) ⟨hx, hb, hml, hown, hts⟩ (c_CO_codeTwoSides l hlt dC dI H.size sa h0 pr kn lt pe to bo cs se gl fu pa pf sf pk pg pp pz pv pr_scanner_r pr_waiting_r pr_waitingPlaces_r bob cpe cbob h0_localCount h0_pendingCount h0_gives h0_depth h0_loopDepth pr_reason pr_place pr_stepCount pr_open pr_twoSides pr_waitingCount gpe bo_length gbob (b_h0_pendingCount) (b_bo_length) ka x31 (b9) (by (first | (apply Int.le_antisymm <;> omega) | omega)) (⟨kk, hka⟩) ((by rw [show (h0_pendingCount.toInt - 2).toNat = h0_pendingCount.toNatClampNeg - 2 from by (first | (apply Int.le_antisymm <;> omega) | omega)]; exact t0.2)) (by (first | (apply Int.le_antisymm <;> omega) | omega))) (cwV 2 hts (gV kM_CO_196 kV_CO_codeTwoSides kS_CO_codeTwoSides kI_CO kC_CO_codeTwoSides) rfl rfl rfl (by decide +kernel) ⟨Nat.le_of_ble_eq_true rfl, Nat.le_of_ble_eq_true rfl⟩) ⟨fun a U g mk z => by obtain ⟨z0, z1, zP, zK, zD, zS⟩ := z; exact ⟨z0, z1, zP, va_K.moved (u := U) (U := U.calling g mk a) (Vm.Alike.refl U.vm) zK, zD, sw.same (u := U) (U := U.calling g mk a) rfl zS⟩, va_recv hKc hPc (ci := 2) (q0 := 0) rfl rfl, fun U hU hW => ⟨rfl, by rw [hU], va_P.he hU.symm hPc, va_K.moved hW.alike hKc, hDc.weaken (fun _ _ _ _ => trivial), hSW.call hS hFc hW hU⟩⟩ rfl rfl hl.1 rfl (lv_room (Nat.le_of_ble_eq_true rfl)) d_CO_codeValue_137 ⟨Nat.le_of_ble_eq_true rfl, Nat.le_of_ble_eq_true rfl⟩) hS (fun q _ h => hFc q h) hFc (fun u t H1 locs ht hvm hw hB hz1 hk1 hS => ?_) (fun xx u t H1 locs ht hvm hw hXX hB hz1 hk1 hS => ?_)
          rotate_left
          · skip
            obtain ⟨n33, n34, n35, n36, n37, n38⟩ := u
            try dsimp only at hw
            obtain ⟨bn35, bn36⟩ := hw
            obtain ⟨hP1, hK1, hD1⟩ := hB
            replace hP1 := va_P.he ht hP1
            obtain ⟨hP, hD⟩ := va_join (wr := (wz_207 kn tr kns knz knt knv kn_length kns ckns gkns knz cknz gknz knt cknt gknt knv cknv gknv tr tx tr_length tx ctx gtx pf cpf gpf pk cpk gpk pg cpg (fun j => (gpg j).map (sg sa)) pp cpp gpp pz cpz gpz pv cpv gpv gl tr gls glz glt glv gl_length gls cgls ggls glz cglz gglz glt cglt gglt fu tr fus fuz fut fuv fu_length fus cfus gfus fuz cfuz gfuz fut cfut gfut pa tr pas paz pat pav pa_length pat cpat gpat)) (w1 := (wz_160 h0 pr kn lt h0_localCount pe n36 h0_gives h0_depth h0_loopDepth to bo cs se pr gl fu pa pf sf pk pg pp pz pv n38 n37 pr_scanner_r pr_stepCount pr_open pr_twoSides pr_waiting_r pr_waitingPlaces_r pr_waitingCount pe cpe n34 bo bob n35 bob cbob n33)) hP hD [0, 1, 2, 3, 4] [5, 6, 7, 8, 9, 10, 11, 12, 13, 14, 15, 16, 17, 18, 19, 20, 21, 22, 23, 24, 25, 26, 27] rfl rfl (by decide) (by decide) hk1 hFc hP1 hD1
            have hP : va_P (dC, dI) cls (wz_208 kn tr kns knz knt knv kn_length kns ckns gkns knz cknz gknz knt cknt gknt knv cknv gknv tr tx tr_length tx ctx gtx pf cpf gpf pk cpk gpk pg cpg (fun j => (gpg j).map (sg sa)) pp cpp gpp pz cpz gpz pv cpv gpv gl tr gls glz glt glv gl_length gls cgls ggls glz cglz gglz glt cglt gglt fu tr fus fuz fut fuv fu_length fus cfus gfus fuz cfuz gfuz fut cfut gfut pa tr pas paz pat pav pa_length pat cpat gpat h0 pr kn lt h0_localCount pe n36 h0_gives h0_depth h0_loopDepth to bo cs se pr gl fu pa pf sf pk pg pp pz pv n38 n37 pr_scanner_r pr_stepCount pr_open pr_twoSides pr_waiting_r pr_waitingPlaces_r pr_waitingCount pe cpe n34 bo bob n35 bob cbob n33) H1 := hP
            have hD : va_D A (wz_208 kn tr kns knz knt knv kn_length kns ckns gkns knz cknz gknz knt cknt gknt knv cknv gknv tr tx tr_length tx ctx gtx pf cpf gpf pk cpk gpk pg cpg (fun j => (gpg j).map (sg sa)) pp cpp gpp pz cpz gpz pv cpv gpv gl tr gls glz glt glv gl_length gls cgls ggls glz cglz gglz glt cglt gglt fu tr fus fuz fut fuv fu_length fus cfus gfus fuz cfuz gfuz fut cfut gfut pa tr pas paz pat pav pa_length pat cpat gpat h0 pr kn lt h0_localCount pe n36 h0_gives h0_depth h0_loopDepth to bo cs se pr gl fu pa pf sf pk pg pp pz pv n38 n37 pr_scanner_r pr_stepCount pr_open pr_twoSides pr_waiting_r pr_waitingPlaces_r pr_waitingCount pe cpe n34 bo bob n35 bob cbob n33) := hD
            have hP9 := hP.sb (wq := (wz_204 h0 pr kn lt h0_localCount pe n36 h0_gives h0_depth h0_loopDepth to bo cs se pr gl fu pa pf sf pk pg pp pz pv n38 n37 pr_scanner_r pr_stepCount pr_open pr_twoSides pr_waiting_r pr_waitingPlaces_r pr_waitingCount pe cpe n34 bo bob n35 bob cbob n33 kn tr kns knz knt knv kn_length kns ckns gkns knz cknz gknz knt cknt gknt knv cknv gknv tr tx tr_length tx ctx gtx pf cpf gpf pk cpk gpk pg cpg (fun j => (gpg j).map (sg sa)) pp cpp gpp pz cpz gpz pv cpv gpv gl tr gls glz glt glv gl_length gls cgls ggls glz cglz gglz glt cglt gglt fu tr fus fuz fut fuv fu_length fus cfus gfus fuz cfuz gfuz fut cfut gfut pa tr pas paz pat pav pa_length pat cpat gpat)) [23, 24, 25, 26, 27, 0, 1, 2, 3, 4, 5, 6, 7, 8, 9, 10, 11, 12, 13, 14, 15, 16, 17, 18, 19, 20, 21, 22] rfl
            have hD9 := hD.sb (wq := (wz_204 h0 pr kn lt h0_localCount pe n36 h0_gives h0_depth h0_loopDepth to bo cs se pr gl fu pa pf sf pk pg pp pz pv n38 n37 pr_scanner_r pr_stepCount pr_open pr_twoSides pr_waiting_r pr_waitingPlaces_r pr_waitingCount pe cpe n34 bo bob n35 bob cbob n33 kn tr kns knz knt knv kn_length kns ckns gkns knz cknz gknz knt cknt gknt knv cknv gknv tr tx tr_length tx ctx gtx pf cpf gpf pk cpk gpk pg cpg (fun j => (gpg j).map (sg sa)) pp cpp gpp pz cpz gpz pv cpv gpv gl tr gls glz glt glv gl_length gls cgls ggls glz cglz gglz glt cglt gglt fu tr fus fuz fut fuv fu_length fus cfus gfus fuz cfuz gfuz fut cfut gfut pa tr pas paz pat pav pa_length pat cpat gpat)) [23, 24, 25, 26, 27, 0, 1, 2, 3, 4, 5, 6, 7, 8, 9, 10, 11, 12, 13, 14, 15, 16, 17, 18, 19, 20, 21, 22] (by decide) rfl
            exact tz_leave rfl hno hlocks (fun t ht hW => ⟨⟨(n33, n34, n35, n36, n37, n38), ⟨⟨bn35, bn36⟩, by rw [ht]; exact hXX.moved hW.alike⟩, va_P.he ht.symm hP9, va_K.moved hW.alike hK, hD9⟩, hS.F ht⟩) hS.2.2
          obtain ⟨n39, n40, n41, n42, n43, n44⟩ := u
          try dsimp only at hw
          obtain ⟨bn41, bn42, xr32⟩ := hw
          try clear hw
          obtain ⟨hP1, hK1, hD1⟩ := hB
          replace hP1 := va_P.he ht hP1
          obtain ⟨hP, hD⟩ := va_join (wr := (wz_207 kn tr kns knz knt knv kn_length kns ckns gkns knz cknz gknz knt cknt gknt knv cknv gknv tr tx tr_length tx ctx gtx pf cpf gpf pk cpk gpk pg cpg (fun j => (gpg j).map (sg sa)) pp cpp gpp pz cpz gpz pv cpv gpv gl tr gls glz glt glv gl_length gls cgls ggls glz cglz gglz glt cglt gglt fu tr fus fuz fut fuv fu_length fus cfus gfus fuz cfuz gfuz fut cfut gfut pa tr pas paz pat pav pa_length pat cpat gpat)) (w1 := (wz_160 h0 pr kn lt h0_localCount pe n42 h0_gives h0_depth h0_loopDepth to bo cs se pr gl fu pa pf sf pk pg pp pz pv n44 n43 pr_scanner_r pr_stepCount pr_open pr_twoSides pr_waiting_r pr_waitingPlaces_r pr_waitingCount pe cpe n40 bo bob n41 bob cbob n39)) hP hD [0, 1, 2, 3, 4] [5, 6, 7, 8, 9, 10, 11, 12, 13, 14, 15, 16, 17, 18, 19, 20, 21, 22, 23, 24, 25, 26, 27] rfl rfl (by decide) (by decide) hk1 hFc hP1 hD1
          clear hPc hDc hKc hFc hz1 hk1 hP1 hK1 hD1
          rename Heap => H
          have hP : va_P (dC, dI) cls (wz_208 kn tr kns knz knt knv kn_length kns ckns gkns knz cknz gknz knt cknt gknt knv cknv gknv tr tx tr_length tx ctx gtx pf cpf gpf pk cpk gpk pg cpg (fun j => (gpg j).map (sg sa)) pp cpp gpp pz cpz gpz pv cpv gpv gl tr gls glz glt glv gl_length gls cgls ggls glz cglz gglz glt cglt gglt fu tr fus fuz fut fuv fu_length fus cfus gfus fuz cfuz gfuz fut cfut gfut pa tr pas paz pat pav pa_length pat cpat gpat h0 pr kn lt h0_localCount pe n42 h0_gives h0_depth h0_loopDepth to bo cs se pr gl fu pa pf sf pk pg pp pz pv n44 n43 pr_scanner_r pr_stepCount pr_open pr_twoSides pr_waiting_r pr_waitingPlaces_r pr_waitingCount pe cpe n40 bo bob n41 bob cbob n39) H := hP
          have hD : va_D A (wz_208 kn tr kns knz knt knv kn_length kns ckns gkns knz cknz gknz knt cknt gknt knv cknv gknv tr tx tr_length tx ctx gtx pf cpf gpf pk cpk gpk pg cpg (fun j => (gpg j).map (sg sa)) pp cpp gpp pz cpz gpz pv cpv gpv gl tr gls glz glt glv gl_length gls cgls ggls glz cglz gglz glt cglt gglt fu tr fus fuz fut fuv fu_length fus cfus gfus fuz cfuz gfuz fut cfut gfut pa tr pas paz pat pav pa_length pat cpat gpat h0 pr kn lt h0_localCount pe n42 h0_gives h0_depth h0_loopDepth to bo cs se pr gl fu pa pf sf pk pg pp pz pv n44 n43 pr_scanner_r pr_stepCount pr_open pr_twoSides pr_waiting_r pr_waitingPlaces_r pr_waitingCount pe cpe n40 bo bob n41 bob cbob n39) := hD
          refine lv_goto (tgt := 228) hx hb d_CO_codeValue_140 (by decide) ?_
          have hP9 := hP.sb (wq := (wz_204 h0 pr kn lt h0_localCount pe n42 h0_gives h0_depth h0_loopDepth to bo cs se pr gl fu pa pf sf pk pg pp pz pv n44 n43 pr_scanner_r pr_stepCount pr_open pr_twoSides pr_waiting_r pr_waitingPlaces_r pr_waitingCount pe cpe n40 bo bob n41 bob cbob n39 kn tr kns knz knt knv kn_length kns ckns gkns knz cknz gknz knt cknt gknt knv cknv gknv tr tx tr_length tx ctx gtx pf cpf gpf pk cpk gpk pg cpg (fun j => (gpg j).map (sg sa)) pp cpp gpp pz cpz gpz pv cpv gpv gl tr gls glz glt glv gl_length gls cgls ggls glz cglz gglz glt cglt gglt fu tr fus fuz fut fuv fu_length fus cfus gfus fuz cfuz gfuz fut cfut gfut pa tr pas paz pat pav pa_length pat cpat gpat)) [23, 24, 25, 26, 27, 0, 1, 2, 3, 4, 5, 6, 7, 8, 9, 10, 11, 12, 13, 14, 15, 16, 17, 18, 19, 20, 21, 22] rfl
          have hD9 := hD.sb (wq := (wz_204 h0 pr kn lt h0_localCount pe n42 h0_gives h0_depth h0_loopDepth to bo cs se pr gl fu pa pf sf pk pg pp pz pv n44 n43 pr_scanner_r pr_stepCount pr_open pr_twoSides pr_waiting_r pr_waitingPlaces_r pr_waitingCount pe cpe n40 bo bob n41 bob cbob n39 kn tr kns knz knt knv kn_length kns ckns gkns knz cknz gknz knt cknt gknt knv cknv gknv tr tx tr_length tx ctx gtx pf cpf gpf pk cpk gpk pg cpg (fun j => (gpg j).map (sg sa)) pp cpp gpp pz cpz gpz pv cpv gpv gl tr gls glz glt glv gl_length gls cgls ggls glz cglz gglz glt cglt gglt fu tr fus fuz fut fuv fu_length fus cfus gfus fuz cfuz gfuz fut cfut gfut pa tr pas paz pat pav pa_length pat cpat gpat)) [23, 24, 25, 26, 27, 0, 1, 2, 3, 4, 5, 6, 7, 8, 9, 10, 11, 12, 13, 14, 15, 16, 17, 18, 19, 20, 21, 22] (by decide) rfl
          exact tz_up (fun _ => rfl) (W.vret hx hb hr (fun t ht hW => ⟨⟨(n39, n40, n41, n42, n43, n44), ⟨rfl, ⟨bn41, bn42, by (try dsimp only); obtain ⟨y1, y2, y3, y4, ⟨y, y5, y6, y7⟩, M9, y8, y9, y10⟩ := xr32; rw [show (h0_pendingCount.toInt - 1).toNat = h0_pendingCount.toNatClampNeg - 1 from by (first | (apply Int.le_antisymm <;> omega) | omega)] at y2 y4; rw [show (h0_pendingCount.toInt - 2).toNat = h0_pendingCount.toNatClampNeg - 2 from by (first | (apply Int.le_antisymm <;> omega) | omega)] at y3 y4 y5; rw [y8]; exact cv_two hI.out s9 (by have := i32_clamp (x := n42) (by (first | (apply Int.le_antisymm <;> omega) | omega)); (first | (apply Int.le_antisymm <;> omega) | omega)) y2 y3 y4 y5 y6 y7 y9⟩⟩, va_P.he ht.symm hP9, va_K.moved hW.alike hK, hD9⟩, hS.F ht⟩) hS.2.2 d_CO_codeValue_228)
        · skip
          by_cases g19_143 : x2.toInt = 4
          · have ho19 : tab_off 189 0 6 #[41, 91, 99, 107, 124, 155, 172] x2.toInt = 124 := by rw [g19_143]; rfl
            refine lv_tab (tgt := 143) hx hb d_CO_codeValue_19 (by decide) ho19 (by decide) ?_
            clear ho19
            have h9 : (gpk p0.toNatClampNeg).toInt = 4 := by rw [← ex2]; (first | (apply Int.le_antisymm <;> omega) | omega)
            have s9 := sI_4 hs.out h9
            have q2 : gS2.length = gS.length + 1 := by rw [s9.2, List.length_cons]
            refine lv_aload_n hx hb d_CO_codeValue_143 rfl (lv_at hl 1 rfl) ?_
            refine lv_aload_n hx hb d_CO_codeValue_144 rfl (lv_at hl 1 rfl) ?_
            refine va_get (D := (dC, dI)) (ci := 2) (v := .ref bo) (C := R_CO) (T := F_CO) (N := 13) hx hb hts i_CO hown hK hP 0 rfl rfl 10 (by decide) (hts _ kF_CO_26) (fun _ h9 => h9) rfl d_CO_codeValue_145 ?_
            refine va_get (D := (dC, dI)) (ci := 1) (v := .int bo_length) (C := R_BR) (T := F_BR) (N := 2) hx hb hts i_BR hown hK hP 3 rfl rfl 1 (by decide) (hts _ kF_CO_64) (fun _ h9 => h9) rfl d_CO_codeValue_148 ?_
            have hPc := hP.sb (wq := (wz_149 h0 pr kn lt h0_localCount pe h0_pendingCount h0_gives h0_depth h0_loopDepth to bo cs se pe cpe gpe)) [0, 2] rfl
            have hDc := hD.sb (wq := (wz_149 h0 pr kn lt h0_localCount pe h0_pendingCount h0_gives h0_depth h0_loopDepth to bo cs se pe cpe gpe)) [0, 2] (by decide) rfl
            have hKc := hK.sb (tyq := [(cpe, .int)]) [0] rfl
            have hFc := va_free (wc := (wz_149 h0 pr kn lt h0_localCount pe h0_pendingCount h0_gives h0_depth h0_loopDepth to bo cs se pe cpe gpe)) hD hS hA [0, 2] rfl
            refine va_callv (va_runV (As := [.int bo_length]) (rest := []) ⟨hx, hb, hml, hown, hts⟩ (c_CO_push l dC dI H.size h0 pr kn lt pe to bo cs se cpe h0_localCount h0_pendingCount h0_gives h0_depth h0_loopDepth gpe (b_h0_pendingCount) bo_length (by (first | (apply Int.le_antisymm <;> omega) | omega))) (cwV 1 hts (gV kM_CO_183 kV_CO_push kS_CO_push kI_CO kC_CO_push) rfl rfl rfl (by decide +kernel) ⟨Nat.le_of_ble_eq_true rfl, Nat.le_of_ble_eq_true rfl⟩) ⟨fun a U g mk z => by obtain ⟨z0, z1, zP, zK, zD⟩ := z; exact ⟨z0, z1, zP, va_K.moved (u := U) (U := U.calling g mk a) (Vm.Alike.refl U.vm) zK, zD⟩, va_recv hKc hPc (ci := 2) (q0 := 0) rfl rfl, fun U hU hW => ⟨rfl, by rw [hU], va_P.he hU.symm hPc, va_K.moved hW.alike hKc, hDc.weaken (fun _ _ _ _ => trivial)⟩⟩ rfl rfl hl.1 rfl (lv_room (Nat.le_of_ble_eq_true rfl)) d_CO_codeValue_151 ⟨(Nat.zero_le _), (Nat.zero_le _)⟩) hS (fun q _ h => hFc q h) hFc (fun u t H1 locs ht hvm hw hB hz1 hk1 hS => ?_)
            obtain ⟨n46, n47⟩ := u
            try dsimp only at hw
            obtain ⟨bn47, xr45⟩ := hw
            try clear hw
            obtain ⟨hP1, hK1, hD1⟩ := hB
            replace hP1 := va_P.he ht hP1
            obtain ⟨hP, hD⟩ := va_join (wr := [(pr, .inr (6, [.ref gl, .ref fu, .ref pa, .ref pf, .ref sf, .ref pk, .ref pg, .ref pp, .ref pz, .ref pv, .int pr_reason, .int pr_place, .ref pr_scanner_r, .int pr_stepCount, .int pr_open, .int pr_twoSides, .ref pr_waiting_r, .ref pr_waitingPlaces_r, .int pr_waitingCount])), (bo, .inr (1, [.ref bob, .int bo_length])), (bob, .inl (cbob, 8192, .inl gbob)), (kn, .inr (5, [.ref tr, .ref kns, .ref knz, .ref knt, .ref knv, .int kn_length])), (kns, .inl (ckns, 50, .inl gkns)), (knz, .inl (cknz, 50, .inl gknz)), (knt, .inl (cknt, 50, .inl gknt)), (knv, .inl (cknv, 50, .inr (.inl gknv))), (tr, .inr (1, [.ref tx, .int tr_length])), (tx, .inl (ctx, 2000, .inl gtx)), (pf, .inl (cpf, 21, .inl gpf)), (pk, .inl (cpk, 4100, .inl gpk)), (pg, .inl (cpg, 4100, .inr (.inr (.inr (.inr (fun j => (gpg j).map (sg sa))))))), (pp, .inl (cpp, 4100, .inl gpp)), (pz, .inl (cpz, 4100, .inl gpz)), (pv, .inl (cpv, 4100, .inr (.inl gpv))), (gl, .inr (5, [.ref tr, .ref gls, .ref glz, .ref glt, .ref glv, .int gl_length])), (gls, .inl (cgls, 20, .inl ggls)), (glz, .inl (cglz, 20, .inl gglz)), (glt, .inl (cglt, 20, .inl gglt)), (fu, .inr (5, [.ref tr, .ref fus, .ref fuz, .ref fut, .ref fuv, .int fu_length])), (fus, .inl (cfus, 20, .inl gfus)), (fuz, .inl (cfuz, 20, .inl gfuz)), (fut, .inl (cfut, 20, .inl gfut)), (pa, .inr (5, [.ref tr, .ref pas, .ref paz, .ref pat, .ref pav, .int pa_length])), (pat, .inl (cpat, 160, .inl gpat))]) (w1 := (wz_149 h0 pr kn lt h0_localCount pe n47 h0_gives h0_depth h0_loopDepth to bo cs se pe cpe n46)) hP hD [0, 2] [1, 3, 4, 5, 6, 7, 8, 9, 10, 11, 12, 13, 14, 15, 16, 17, 18, 19, 20, 21, 22, 23, 24, 25, 26, 27] rfl rfl (by decide) (by decide) hk1 hFc hP1 hD1
            clear hPc hDc hKc hFc hz1 hk1 hP1 hK1 hD1
            rename Heap => H
            have hP : va_P (dC, dI) cls [(pr, .inr (6, [.ref gl, .ref fu, .ref pa, .ref pf, .ref sf, .ref pk, .ref pg, .ref pp, .ref pz, .ref pv, .int pr_reason, .int pr_place, .ref pr_scanner_r, .int pr_stepCount, .int pr_open, .int pr_twoSides, .ref pr_waiting_r, .ref pr_waitingPlaces_r, .int pr_waitingCount])), (bo, .inr (1, [.ref bob, .int bo_length])), (bob, .inl (cbob, 8192, .inl gbob)), (kn, .inr (5, [.ref tr, .ref kns, .ref knz, .ref knt, .ref knv, .int kn_length])), (kns, .inl (ckns, 50, .inl gkns)), (knz, .inl (cknz, 50, .inl gknz)), (knt, .inl (cknt, 50, .inl gknt)), (knv, .inl (cknv, 50, .inr (.inl gknv))), (tr, .inr (1, [.ref tx, .int tr_length])), (tx, .inl (ctx, 2000, .inl gtx)), (pf, .inl (cpf, 21, .inl gpf)), (pk, .inl (cpk, 4100, .inl gpk)), (pg, .inl (cpg, 4100, .inr (.inr (.inr (.inr (fun j => (gpg j).map (sg sa))))))), (pp, .inl (cpp, 4100, .inl gpp)), (pz, .inl (cpz, 4100, .inl gpz)), (pv, .inl (cpv, 4100, .inr (.inl gpv))), (gl, .inr (5, [.ref tr, .ref gls, .ref glz, .ref glt, .ref glv, .int gl_length])), (gls, .inl (cgls, 20, .inl ggls)), (glz, .inl (cglz, 20, .inl gglz)), (glt, .inl (cglt, 20, .inl gglt)), (fu, .inr (5, [.ref tr, .ref fus, .ref fuz, .ref fut, .ref fuv, .int fu_length])), (fus, .inl (cfus, 20, .inl gfus)), (fuz, .inl (cfuz, 20, .inl gfuz)), (fut, .inl (cfut, 20, .inl gfut)), (pa, .inr (5, [.ref tr, .ref pas, .ref paz, .ref pat, .ref pav, .int pa_length])), (pat, .inl (cpat, 160, .inl gpat)), (h0, .inr (2, [.ref pr, .ref kn, .ref lt, .int h0_localCount, .ref pe, .int n47, .int h0_gives, .int h0_depth, .int h0_loopDepth, .ref to, .ref bo, .ref cs, .ref se])), (pe, .inl (cpe, 680, .inl n46))] H := hP
            have hD : va_D A [(pr, .inr (6, [.ref gl, .ref fu, .ref pa, .ref pf, .ref sf, .ref pk, .ref pg, .ref pp, .ref pz, .ref pv, .int pr_reason, .int pr_place, .ref pr_scanner_r, .int pr_stepCount, .int pr_open, .int pr_twoSides, .ref pr_waiting_r, .ref pr_waitingPlaces_r, .int pr_waitingCount])), (bo, .inr (1, [.ref bob, .int bo_length])), (bob, .inl (cbob, 8192, .inl gbob)), (kn, .inr (5, [.ref tr, .ref kns, .ref knz, .ref knt, .ref knv, .int kn_length])), (kns, .inl (ckns, 50, .inl gkns)), (knz, .inl (cknz, 50, .inl gknz)), (knt, .inl (cknt, 50, .inl gknt)), (knv, .inl (cknv, 50, .inr (.inl gknv))), (tr, .inr (1, [.ref tx, .int tr_length])), (tx, .inl (ctx, 2000, .inl gtx)), (pf, .inl (cpf, 21, .inl gpf)), (pk, .inl (cpk, 4100, .inl gpk)), (pg, .inl (cpg, 4100, .inr (.inr (.inr (.inr (fun j => (gpg j).map (sg sa))))))), (pp, .inl (cpp, 4100, .inl gpp)), (pz, .inl (cpz, 4100, .inl gpz)), (pv, .inl (cpv, 4100, .inr (.inl gpv))), (gl, .inr (5, [.ref tr, .ref gls, .ref glz, .ref glt, .ref glv, .int gl_length])), (gls, .inl (cgls, 20, .inl ggls)), (glz, .inl (cglz, 20, .inl gglz)), (glt, .inl (cglt, 20, .inl gglt)), (fu, .inr (5, [.ref tr, .ref fus, .ref fuz, .ref fut, .ref fuv, .int fu_length])), (fus, .inl (cfus, 20, .inl gfus)), (fuz, .inl (cfuz, 20, .inl gfuz)), (fut, .inl (cfut, 20, .inl gfut)), (pa, .inr (5, [.ref tr, .ref pas, .ref paz, .ref pat, .ref pav, .int pa_length])), (pat, .inl (cpat, 160, .inl gpat)), (h0, .inr (2, [.ref pr, .ref kn, .ref lt, .int h0_localCount, .ref pe, .int n47, .int h0_gives, .int h0_depth, .int h0_loopDepth, .ref to, .ref bo, .ref cs, .ref se])), (pe, .inl (cpe, 680, .inl n46))] := hD
            refine lv_aload_n hx hb d_CO_codeValue_154 rfl (lv_at hl 1 rfl) ?_
            refine va_get (D := (dC, dI)) (ci := 2) (v := .ref bo) (C := R_CO) (T := F_CO) (N := 13) hx hb hts i_CO hown hK hP 26 rfl rfl 10 (by decide) (hts _ kF_CO_26) (fun _ h9 => h9) rfl d_CO_codeValue_155 ?_
            refine lv_bipush (v := 65) hx hb d_CO_codeValue_158 (by decide) ?_
            have hPc := hP.sb (wq := (wz_94 bo bob bo_length bob cbob gbob)) [1, 2] rfl
            have hDc := hD.sb (wq := (wz_94 bo bob bo_length bob cbob gbob)) [1, 2] (by decide) rfl
            have hKc := hK.sb (tyq := [(cbob, .byte)]) [1] rfl
            have hFc := va_free (wc := (wz_94 bo bob bo_length bob cbob gbob)) hD hS hA [1, 2] rfl
            refine va_callv (va_runV (As := [.int 65]) (rest := []) ⟨hx, hb, hml, hown, hts⟩ (c_BR_put l dC dI bo bob H.size cbob 8192 bo_length gbob (by (first | (apply Int.le_antisymm <;> omega) | omega)) (by (first | (apply Int.le_antisymm <;> omega) | omega)) (by (first | (apply Int.le_antisymm <;> omega) | omega)) 65) (cwV 1 hts (gV kM_CO_76 kV_BR_put kS_BR_put kI_BR kC_BR_put) rfl rfl rfl (by decide +kernel) ⟨Nat.le_of_ble_eq_true rfl, Nat.le_of_ble_eq_true rfl⟩) ⟨fun a U g mk z => by obtain ⟨z0, z1, zP, zK, zD⟩ := z; exact ⟨z0, z1, zP, va_K.moved (u := U) (U := U.calling g mk a) (Vm.Alike.refl U.vm) zK, zD⟩, va_recv hKc hPc (ci := 1) (q0 := 0) rfl rfl, fun U hU hW => ⟨rfl, by rw [hU], va_P.he hU.symm hPc, va_K.moved hW.alike hKc, hDc.weaken (fun _ _ _ _ => trivial)⟩⟩ rfl rfl hl.1 rfl (lv_room (Nat.le_of_ble_eq_true rfl)) d_CO_codeValue_160 ⟨(Nat.zero_le _), (Nat.zero_le _)⟩) hS (fun q _ h => hFc q h) hFc (fun u t H1 locs ht hvm hw hB hz1 hk1 hS => ?_)
            obtain ⟨n49, f50⟩ := u
            try dsimp only at hw
            have tn49 := br_put_in (by (first | (apply Int.le_antisymm <;> omega) | omega)) (by (first | (apply Int.le_antisymm <;> omega) | omega)) (by (first | (apply Int.le_antisymm <;> omega) | omega)) hw
            have bn49 := br_put_bl (by (first | (apply Int.le_antisymm <;> omega) | omega)) (by (first | (apply Int.le_antisymm <;> omega) | omega)) (by (first | (apply Int.le_antisymm <;> omega) | omega)) hw
            obtain ⟨hP1, hK1, hD1⟩ := hB
            replace hP1 := va_P.he ht hP1
            obtain ⟨hP, hD⟩ := va_join (wr := [(pr, .inr (6, [.ref gl, .ref fu, .ref pa, .ref pf, .ref sf, .ref pk, .ref pg, .ref pp, .ref pz, .ref pv, .int pr_reason, .int pr_place, .ref pr_scanner_r, .int pr_stepCount, .int pr_open, .int pr_twoSides, .ref pr_waiting_r, .ref pr_waitingPlaces_r, .int pr_waitingCount])), (kn, .inr (5, [.ref tr, .ref kns, .ref knz, .ref knt, .ref knv, .int kn_length])), (kns, .inl (ckns, 50, .inl gkns)), (knz, .inl (cknz, 50, .inl gknz)), (knt, .inl (cknt, 50, .inl gknt)), (knv, .inl (cknv, 50, .inr (.inl gknv))), (tr, .inr (1, [.ref tx, .int tr_length])), (tx, .inl (ctx, 2000, .inl gtx)), (pf, .inl (cpf, 21, .inl gpf)), (pk, .inl (cpk, 4100, .inl gpk)), (pg, .inl (cpg, 4100, .inr (.inr (.inr (.inr (fun j => (gpg j).map (sg sa))))))), (pp, .inl (cpp, 4100, .inl gpp)), (pz, .inl (cpz, 4100, .inl gpz)), (pv, .inl (cpv, 4100, .inr (.inl gpv))), (gl, .inr (5, [.ref tr, .ref gls, .ref glz, .ref glt, .ref glv, .int gl_length])), (gls, .inl (cgls, 20, .inl ggls)), (glz, .inl (cglz, 20, .inl gglz)), (glt, .inl (cglt, 20, .inl gglt)), (fu, .inr (5, [.ref tr, .ref fus, .ref fuz, .ref fut, .ref fuv, .int fu_length])), (fus, .inl (cfus, 20, .inl gfus)), (fuz, .inl (cfuz, 20, .inl gfuz)), (fut, .inl (cfut, 20, .inl gfut)), (pa, .inr (5, [.ref tr, .ref pas, .ref paz, .ref pat, .ref pav, .int pa_length])), (pat, .inl (cpat, 160, .inl gpat)), (h0, .inr (2, [.ref pr, .ref kn, .ref lt, .int h0_localCount, .ref pe, .int n47, .int h0_gives, .int h0_depth, .int h0_loopDepth, .ref to, .ref bo, .ref cs, .ref se])), (pe, .inl (cpe, 680, .inl n46))]) (w1 := (wz_94 bo bob n49 bob cbob f50)) hP hD [1, 2] [0, 3, 4, 5, 6, 7, 8, 9, 10, 11, 12, 13, 14, 15, 16, 17, 18, 19, 20, 21, 22, 23, 24, 25, 26, 27] rfl rfl (by decide) (by decide) hk1 hFc hP1 hD1
            clear hPc hDc hKc hFc hz1 hk1 hP1 hK1 hD1
            rename Heap => H
            have hP : va_P (dC, dI) cls (wz_209 pr gl fu pa pf sf pk pg pp pz pv pr_reason pr_place pr_scanner_r pr_stepCount pr_open pr_twoSides pr_waiting_r pr_waitingPlaces_r pr_waitingCount kn tr kns knz knt knv kn_length kns ckns gkns knz cknz gknz knt cknt gknt knv cknv gknv tr tx tr_length tx ctx gtx pf cpf gpf pk cpk gpk pg cpg (fun j => (gpg j).map (sg sa)) pp cpp gpp pz cpz gpz pv cpv gpv gl tr gls glz glt glv gl_length gls cgls ggls glz cglz gglz glt cglt gglt fu tr fus fuz fut fuv fu_length fus cfus gfus fuz cfuz gfuz fut cfut gfut pa tr pas paz pat pav pa_length pat cpat gpat h0 pr kn lt h0_localCount pe n47 h0_gives h0_depth h0_loopDepth to bo cs se pe cpe n46 bo bob n49 bob cbob f50) H := hP
            have hD : va_D A (wz_209 pr gl fu pa pf sf pk pg pp pz pv pr_reason pr_place pr_scanner_r pr_stepCount pr_open pr_twoSides pr_waiting_r pr_waitingPlaces_r pr_waitingCount kn tr kns knz knt knv kn_length kns ckns gkns knz cknz gknz knt cknt gknt knv cknv gknv tr tx tr_length tx ctx gtx pf cpf gpf pk cpk gpk pg cpg (fun j => (gpg j).map (sg sa)) pp cpp gpp pz cpz gpz pv cpv gpv gl tr gls glz glt glv gl_length gls cgls ggls glz cglz gglz glt cglt gglt fu tr fus fuz fut fuv fu_length fus cfus gfus fuz cfuz gfuz fut cfut gfut pa tr pas paz pat pav pa_length pat cpat gpat h0 pr kn lt h0_localCount pe n47 h0_gives h0_depth h0_loopDepth to bo cs se pe cpe n46 bo bob n49 bob cbob f50) := hD
            refine lv_aload_n hx hb d_CO_codeValue_163 rfl (lv_at hl 1 rfl) ?_
            refine va_get (D := (dC, dI)) (ci := 2) (v := .ref bo) (C := R_CO) (T := F_CO) (N := 13) hx hb hts i_CO hown hK hP 24 rfl rfl 10 (by decide) (hts _ kF_CO_26) (fun _ h9 => h9) rfl d_CO_codeValue_164 ?_
            refine lv_iconst (v := 0) hx hb d_CO_codeValue_167 (by decide) ?_
            have hPc := hP.sb (wq := (wz_94 bo bob n49 bob cbob f50)) [26, 27] rfl
            have hDc := hD.sb (wq := (wz_94 bo bob n49 bob cbob f50)) [26, 27] (by decide) rfl
            have hKc := hK.sb (tyq := [(cbob, .byte)]) [1] rfl
            have hFc := va_free (wc := (wz_94 bo bob n49 bob cbob f50)) hD hS hA [26, 27] rfl
            refine va_callv (va_runV (As := [.int 0]) (rest := []) ⟨hx, hb, hml, hown, hts⟩ (c_BR_put l dC dI bo bob H.size cbob 8192 n49 f50 (by (first | (apply Int.le_antisymm <;> omega) | omega)) (by (first | (apply Int.le_antisymm <;> omega) | omega)) (by (first | (apply Int.le_antisymm <;> omega) | omega)) 0) (cwV 1 hts (gV kM_CO_76 kV_BR_put kS_BR_put kI_BR kC_BR_put) rfl rfl rfl (by decide +kernel) ⟨Nat.le_of_ble_eq_true rfl, Nat.le_of_ble_eq_true rfl⟩) ⟨fun a U g mk z => by obtain ⟨z0, z1, zP, zK, zD⟩ := z; exact ⟨z0, z1, zP, va_K.moved (u := U) (U := U.calling g mk a) (Vm.Alike.refl U.vm) zK, zD⟩, va_recv hKc hPc (ci := 1) (q0 := 0) rfl rfl, fun U hU hW => ⟨rfl, by rw [hU], va_P.he hU.symm hPc, va_K.moved hW.alike hKc, hDc.weaken (fun _ _ _ _ => trivial)⟩⟩ rfl rfl hl.1 rfl (lv_room (Nat.le_of_ble_eq_true rfl)) d_CO_codeValue_168 ⟨(Nat.zero_le _), (Nat.zero_le _)⟩) hS (fun q _ h => hFc q h) hFc (fun u t H1 locs ht hvm hw hB hz1 hk1 hS => ?_)
            obtain ⟨n52, f53⟩ := u
            try dsimp only at hw
            have tn52 := br_put_in (by (first | (apply Int.le_antisymm <;> omega) | omega)) (by (first | (apply Int.le_antisymm <;> omega) | omega)) (by (first | (apply Int.le_antisymm <;> omega) | omega)) hw
            have bn52 := br_put_bl (by (first | (apply Int.le_antisymm <;> omega) | omega)) (by (first | (apply Int.le_antisymm <;> omega) | omega)) (by (first | (apply Int.le_antisymm <;> omega) | omega)) hw
            obtain ⟨hP1, hK1, hD1⟩ := hB
            replace hP1 := va_P.he ht hP1
            obtain ⟨hP, hD⟩ := va_join (wr := [(pr, .inr (6, [.ref gl, .ref fu, .ref pa, .ref pf, .ref sf, .ref pk, .ref pg, .ref pp, .ref pz, .ref pv, .int pr_reason, .int pr_place, .ref pr_scanner_r, .int pr_stepCount, .int pr_open, .int pr_twoSides, .ref pr_waiting_r, .ref pr_waitingPlaces_r, .int pr_waitingCount])), (kn, .inr (5, [.ref tr, .ref kns, .ref knz, .ref knt, .ref knv, .int kn_length])), (kns, .inl (ckns, 50, .inl gkns)), (knz, .inl (cknz, 50, .inl gknz)), (knt, .inl (cknt, 50, .inl gknt)), (knv, .inl (cknv, 50, .inr (.inl gknv))), (tr, .inr (1, [.ref tx, .int tr_length])), (tx, .inl (ctx, 2000, .inl gtx)), (pf, .inl (cpf, 21, .inl gpf)), (pk, .inl (cpk, 4100, .inl gpk)), (pg, .inl (cpg, 4100, .inr (.inr (.inr (.inr (fun j => (gpg j).map (sg sa))))))), (pp, .inl (cpp, 4100, .inl gpp)), (pz, .inl (cpz, 4100, .inl gpz)), (pv, .inl (cpv, 4100, .inr (.inl gpv))), (gl, .inr (5, [.ref tr, .ref gls, .ref glz, .ref glt, .ref glv, .int gl_length])), (gls, .inl (cgls, 20, .inl ggls)), (glz, .inl (cglz, 20, .inl gglz)), (glt, .inl (cglt, 20, .inl gglt)), (fu, .inr (5, [.ref tr, .ref fus, .ref fuz, .ref fut, .ref fuv, .int fu_length])), (fus, .inl (cfus, 20, .inl gfus)), (fuz, .inl (cfuz, 20, .inl gfuz)), (fut, .inl (cfut, 20, .inl gfut)), (pa, .inr (5, [.ref tr, .ref pas, .ref paz, .ref pat, .ref pav, .int pa_length])), (pat, .inl (cpat, 160, .inl gpat)), (h0, .inr (2, [.ref pr, .ref kn, .ref lt, .int h0_localCount, .ref pe, .int n47, .int h0_gives, .int h0_depth, .int h0_loopDepth, .ref to, .ref bo, .ref cs, .ref se])), (pe, .inl (cpe, 680, .inl n46))]) (w1 := (wz_94 bo bob n52 bob cbob f53)) hP hD [26, 27] [0, 1, 2, 3, 4, 5, 6, 7, 8, 9, 10, 11, 12, 13, 14, 15, 16, 17, 18, 19, 20, 21, 22, 23, 24, 25] rfl rfl (by decide) (by decide) hk1 hFc hP1 hD1
            clear hPc hDc hKc hFc hz1 hk1 hP1 hK1 hD1
            rename Heap => H
            have hP : va_P (dC, dI) cls (wz_209 pr gl fu pa pf sf pk pg pp pz pv pr_reason pr_place pr_scanner_r pr_stepCount pr_open pr_twoSides pr_waiting_r pr_waitingPlaces_r pr_waitingCount kn tr kns knz knt knv kn_length kns ckns gkns knz cknz gknz knt cknt gknt knv cknv gknv tr tx tr_length tx ctx gtx pf cpf gpf pk cpk gpk pg cpg (fun j => (gpg j).map (sg sa)) pp cpp gpp pz cpz gpz pv cpv gpv gl tr gls glz glt glv gl_length gls cgls ggls glz cglz gglz glt cglt gglt fu tr fus fuz fut fuv fu_length fus cfus gfus fuz cfuz gfuz fut cfut gfut pa tr pas paz pat pav pa_length pat cpat gpat h0 pr kn lt h0_localCount pe n47 h0_gives h0_depth h0_loopDepth to bo cs se pe cpe n46 bo bob n52 bob cbob f53) H := hP
            have hD : va_D A (wz_209 pr gl fu pa pf sf pk pg pp pz pv pr_reason pr_place pr_scanner_r pr_stepCount pr_open pr_twoSides pr_waiting_r pr_waitingPlaces_r pr_waitingCount kn tr kns knz knt knv kn_length kns ckns gkns knz cknz gknz knt cknt gknt knv cknv gknv tr tx tr_length tx ctx gtx pf cpf gpf pk cpk gpk pg cpg (fun j => (gpg j).map (sg sa)) pp cpp gpp pz cpz gpz pv cpv gpv gl tr gls glz glt glv gl_length gls cgls ggls glz cglz gglz glt cglt gglt fu tr fus fuz fut fuv fu_length fus cfus gfus fuz cfuz gfuz fut cfut gfut pa tr pas paz pat pav pa_length pat cpat gpat h0 pr kn lt h0_localCount pe n47 h0_gives h0_depth h0_loopDepth to bo cs se pe cpe n46 bo bob n52 bob cbob f53) := hD
            refine lv_goto (tgt := 228) hx hb d_CO_codeValue_171 (by decide) ?_
            have hP9 := hP.sb (wq := (wz_204 h0 pr kn lt h0_localCount pe n47 h0_gives h0_depth h0_loopDepth to bo cs se pr gl fu pa pf sf pk pg pp pz pv pr_reason pr_place pr_scanner_r pr_stepCount pr_open pr_twoSides pr_waiting_r pr_waitingPlaces_r pr_waitingCount pe cpe n46 bo bob n52 bob cbob f53 kn tr kns knz knt knv kn_length kns ckns gkns knz cknz gknz knt cknt gknt knv cknv gknv tr tx tr_length tx ctx gtx pf cpf gpf pk cpk gpk pg cpg (fun j => (gpg j).map (sg sa)) pp cpp gpp pz cpz gpz pv cpv gpv gl tr gls glz glt glv gl_length gls cgls ggls glz cglz gglz glt cglt gglt fu tr fus fuz fut fuv fu_length fus cfus gfus fuz cfuz gfuz fut cfut gfut pa tr pas paz pat pav pa_length pat cpat gpat)) [24, 0, 25, 26, 27, 1, 2, 3, 4, 5, 6, 7, 8, 9, 10, 11, 12, 13, 14, 15, 16, 17, 18, 19, 20, 21, 22, 23] rfl
            have hD9 := hD.sb (wq := (wz_204 h0 pr kn lt h0_localCount pe n47 h0_gives h0_depth h0_loopDepth to bo cs se pr gl fu pa pf sf pk pg pp pz pv pr_reason pr_place pr_scanner_r pr_stepCount pr_open pr_twoSides pr_waiting_r pr_waitingPlaces_r pr_waitingCount pe cpe n46 bo bob n52 bob cbob f53 kn tr kns knz knt knv kn_length kns ckns gkns knz cknz gknz knt cknt gknt knv cknv gknv tr tx tr_length tx ctx gtx pf cpf gpf pk cpk gpk pg cpg (fun j => (gpg j).map (sg sa)) pp cpp gpp pz cpz gpz pv cpv gpv gl tr gls glz glt glv gl_length gls cgls ggls glz cglz gglz glt cglt gglt fu tr fus fuz fut fuv fu_length fus cfus gfus fuz cfuz gfuz fut cfut gfut pa tr pas paz pat pav pa_length pat cpat gpat)) [24, 0, 25, 26, 27, 1, 2, 3, 4, 5, 6, 7, 8, 9, 10, 11, 12, 13, 14, 15, 16, 17, 18, 19, 20, 21, 22, 23] (by decide) rfl
            exact tz_up (fun _ => rfl) (W.vret hx hb hr (fun t ht hW => ⟨⟨(f53, n46, n52, n47, pr_place, pr_reason), ⟨rfl, ⟨by (try dsimp only) <;> (first | (apply Int.le_antisymm <;> omega) | omega), bn47, by (try dsimp only); have hbl : bl f53 n52.toNatClampNeg = bl gbob bo_length.toNatClampNeg ++ [65, 0] := (by rw [bn52 (by (first | (apply Int.le_antisymm <;> omega) | omega)), bn49 (by (first | (apply Int.le_antisymm <;> omega) | omega)), List.append_assoc]; rfl); rw [hbl]; exact cv_preb hI.out s9 (by have := i32_clamp (x := n47) (by (first | (apply Int.le_antisymm <;> omega) | omega)); (first | (apply Int.le_antisymm <;> omega) | omega)) xr45.2 (by rw [bl_len]; (first | (apply Int.le_antisymm <;> omega) | omega)) rfl⟩⟩, va_P.he ht.symm hP9, va_K.moved hW.alike hK, hD9⟩, hS.F ht⟩) hS.2.2 d_CO_codeValue_228)
          · skip
            by_cases g19_174 : x2.toInt = 5
            · have ho19 : tab_off 189 0 6 #[41, 91, 99, 107, 124, 155, 172] x2.toInt = 155 := by rw [g19_174]; rfl
              refine lv_tab (tgt := 174) hx hb d_CO_codeValue_19 (by decide) ho19 (by decide) ?_
              clear ho19
              have h9 : (gpk p0.toNatClampNeg).toInt = 5 := by rw [← ex2]; (first | (apply Int.le_antisymm <;> omega) | omega)
              have s9 := sI_5 hs.out h9
              have t0 := cv_neg0 hI.out s9
              have kk : ka = 34 ∨ ka = 35 ∨ ka = 51 := by obtain ⟨T8, -, s8⟩ := s9; clear hI hs t0; (first | (apply Int.le_antisymm <;> omega) | omega)
              have t1 := t0.1
              have t2 := t0.2.2
              rw [bl_len] at t2
              clear t0
              refine lv_aload_n hx hb d_CO_codeValue_174 rfl (lv_at hl 1 rfl) ?_
              refine lv_aload_n hx hb d_CO_codeValue_175 rfl (lv_at hl 0 rfl) ?_
              refine lv_aload_n hx hb d_CO_codeValue_176 rfl (lv_at hl 1 rfl) ?_
              refine va_get (D := (dC, dI)) (ci := 2) (v := .ref pr) (C := R_CO) (T := F_CO) (N := 13) hx hb hts i_CO hown hK hP 0 rfl rfl 0 (by decide) (hts _ kF_CO_36) (fun _ h9 => h9) rfl d_CO_codeValue_177 ?_
              refine va_get (D := (dC, dI)) (ci := 6) (v := .ref pp) (C := R_PR) (T := F_PR) (N := 19) hx hb hts i_PR hown hK hP 1 rfl rfl 7 (by decide) (hts _ kF_CO_193) (fun _ h9 => h9) rfl d_CO_codeValue_180 ?_
              refine lv_iload_n hx hb d_CO_codeValue_183 rfl (lv_at hl 2 rfl) ?_
              have g184 : vp_in p0 4100 := vp_in_iff.mpr ⟨by (first | (apply Int.le_antisymm <;> omega) | omega), by (first | (apply Int.le_antisymm <;> omega) | omega)⟩
              refine va_iald hx hb hK hP 15 10 rfl rfl g184 d_CO_codeValue_184 ?_
              refine lv_topi (fun x54 ex54 => ?_)
              have t3 := t2
              clear t2
              have t2 := (show bx _ from t3)
              clear t3
              have hPc := hP.sb (wq := (wz_160 h0 pr kn lt h0_localCount pe h0_pendingCount h0_gives h0_depth h0_loopDepth to bo cs se pr gl fu pa pf sf pk pg pp pz pv pr_reason pr_place pr_scanner_r pr_stepCount pr_open pr_twoSides pr_waiting_r pr_waitingPlaces_r pr_waitingCount pe cpe gpe bo bob bo_length bob cbob gbob)) [0, 1, 2, 3, 4] rfl
              have hDc := hD.sb (wq := (wz_160 h0 pr kn lt h0_localCount pe h0_pendingCount h0_gives h0_depth h0_loopDepth to bo cs se pr gl fu pa pf sf pk pg pp pz pv pr_reason pr_place pr_scanner_r pr_stepCount pr_open pr_twoSides pr_waiting_r pr_waitingPlaces_r pr_waitingCount pe cpe gpe bo bob bo_length bob cbob gbob)) [0, 1, 2, 3, 4] (by decide) rfl
              have hKc := hK.sb (tyq := [(cpe, .int), (cbob, .byte)]) [0, 1] rfl
              have hFc := va_free (wc := (wz_160 h0 pr kn lt h0_localCount pe h0_pendingCount h0_gives h0_depth h0_loopDepth to bo cs se pr gl fu pa pf sf pk pg pp pz pv pr_reason pr_place pr_scanner_r pr_stepCount pr_open pr_twoSides pr_waiting_r pr_waitingPlaces_r pr_waitingCount pe cpe gpe bo bob bo_length bob cbob gbob)) hD hS hA [0, 1, 2, 3, 4] rfl
              refine tq_callv (tz_runV (As := [.ref (sg sa ka), .int x54]) (rest := []) ⟨hx, hb, hml, hown, hts⟩ (c_CO_codePrefix l hlt dC dI H.size sa h0 pr kn lt pe to bo cs se gl fu pa pf sf pk pg pp pz pv pr_scanner_r pr_waiting_r pr_waitingPlaces_r bob cpe cbob h0_localCount h0_pendingCount h0_gives h0_depth h0_loopDepth pr_reason pr_place pr_stepCount pr_open pr_twoSides pr_waitingCount gpe bo_length gbob (b_h0_pendingCount) (b_bo_length) ka x54 (b9) (by (first | (apply Int.le_antisymm <;> omega) | omega)) (kk) ((fun z => by have w := t2 z; rw [show (h0_pendingCount.toInt - 2).toNat = h0_pendingCount.toNatClampNeg - 2 from by (first | (apply Int.le_antisymm <;> omega) | omega)]; clear t2; (first | (apply Int.le_antisymm <;> omega) | omega))) (by (first | (apply Int.le_antisymm <;> omega) | omega))) (cwV 2 hts (gV kM_CO_200 kV_CO_codePrefix kS_CO_codePrefix kI_CO kC_CO_codePrefix) rfl rfl rfl (by decide +kernel) ⟨Nat.le_of_ble_eq_true rfl, Nat.le_of_ble_eq_true rfl⟩) ⟨fun a U g mk z => by obtain ⟨z0, z1, zP, zK, zD, zS⟩ := z; exact ⟨z0, z1, zP, va_K.moved (u := U) (U := U.calling g mk a) (Vm.Alike.refl U.vm) zK, zD, sw.same (u := U) (U := U.calling g mk a) rfl zS⟩, va_recv hKc hPc (ci := 2) (q0 := 0) rfl rfl, fun U hU hW => ⟨rfl, by rw [hU], va_P.he hU.symm hPc, va_K.moved hW.alike hKc, hDc.weaken (fun _ _ _ _ => trivial), hSW.call hS hFc hW hU⟩⟩ rfl rfl hl.1 rfl (lv_room (Nat.le_of_ble_eq_true rfl)) d_CO_codeValue_185 ⟨Nat.le_of_ble_eq_true rfl, Nat.le_of_ble_eq_true rfl⟩) hS (fun q _ h => hFc q h) hFc (fun u t H1 locs ht hvm hw hB hz1 hk1 hS => ?_) (fun xx u t H1 locs ht hvm hw hXX hB hz1 hk1 hS => ?_)
              rotate_left
              · skip
                obtain ⟨n56, n57, n58, n59, n60, n61⟩ := u
                try dsimp only at hw
                obtain ⟨bn58, bn59⟩ := hw
                obtain ⟨hP1, hK1, hD1⟩ := hB
                replace hP1 := va_P.he ht hP1
                obtain ⟨hP, hD⟩ := va_join (wr := (wz_207 kn tr kns knz knt knv kn_length kns ckns gkns knz cknz gknz knt cknt gknt knv cknv gknv tr tx tr_length tx ctx gtx pf cpf gpf pk cpk gpk pg cpg (fun j => (gpg j).map (sg sa)) pp cpp gpp pz cpz gpz pv cpv gpv gl tr gls glz glt glv gl_length gls cgls ggls glz cglz gglz glt cglt gglt fu tr fus fuz fut fuv fu_length fus cfus gfus fuz cfuz gfuz fut cfut gfut pa tr pas paz pat pav pa_length pat cpat gpat)) (w1 := (wz_160 h0 pr kn lt h0_localCount pe n59 h0_gives h0_depth h0_loopDepth to bo cs se pr gl fu pa pf sf pk pg pp pz pv n61 n60 pr_scanner_r pr_stepCount pr_open pr_twoSides pr_waiting_r pr_waitingPlaces_r pr_waitingCount pe cpe n57 bo bob n58 bob cbob n56)) hP hD [0, 1, 2, 3, 4] [5, 6, 7, 8, 9, 10, 11, 12, 13, 14, 15, 16, 17, 18, 19, 20, 21, 22, 23, 24, 25, 26, 27] rfl rfl (by decide) (by decide) hk1 hFc hP1 hD1
                have hP : va_P (dC, dI) cls (wz_208 kn tr kns knz knt knv kn_length kns ckns gkns knz cknz gknz knt cknt gknt knv cknv gknv tr tx tr_length tx ctx gtx pf cpf gpf pk cpk gpk pg cpg (fun j => (gpg j).map (sg sa)) pp cpp gpp pz cpz gpz pv cpv gpv gl tr gls glz glt glv gl_length gls cgls ggls glz cglz gglz glt cglt gglt fu tr fus fuz fut fuv fu_length fus cfus gfus fuz cfuz gfuz fut cfut gfut pa tr pas paz pat pav pa_length pat cpat gpat h0 pr kn lt h0_localCount pe n59 h0_gives h0_depth h0_loopDepth to bo cs se pr gl fu pa pf sf pk pg pp pz pv n61 n60 pr_scanner_r pr_stepCount pr_open pr_twoSides pr_waiting_r pr_waitingPlaces_r pr_waitingCount pe cpe n57 bo bob n58 bob cbob n56) H1 := hP
                have hD : va_D A (wz_208 kn tr kns knz knt knv kn_length kns ckns gkns knz cknz gknz knt cknt gknt knv cknv gknv tr tx tr_length tx ctx gtx pf cpf gpf pk cpk gpk pg cpg (fun j => (gpg j).map (sg sa)) pp cpp gpp pz cpz gpz pv cpv gpv gl tr gls glz glt glv gl_length gls cgls ggls glz cglz gglz glt cglt gglt fu tr fus fuz fut fuv fu_length fus cfus gfus fuz cfuz gfuz fut cfut gfut pa tr pas paz pat pav pa_length pat cpat gpat h0 pr kn lt h0_localCount pe n59 h0_gives h0_depth h0_loopDepth to bo cs se pr gl fu pa pf sf pk pg pp pz pv n61 n60 pr_scanner_r pr_stepCount pr_open pr_twoSides pr_waiting_r pr_waitingPlaces_r pr_waitingCount pe cpe n57 bo bob n58 bob cbob n56) := hD
                have hP9 := hP.sb (wq := (wz_204 h0 pr kn lt h0_localCount pe n59 h0_gives h0_depth h0_loopDepth to bo cs se pr gl fu pa pf sf pk pg pp pz pv n61 n60 pr_scanner_r pr_stepCount pr_open pr_twoSides pr_waiting_r pr_waitingPlaces_r pr_waitingCount pe cpe n57 bo bob n58 bob cbob n56 kn tr kns knz knt knv kn_length kns ckns gkns knz cknz gknz knt cknt gknt knv cknv gknv tr tx tr_length tx ctx gtx pf cpf gpf pk cpk gpk pg cpg (fun j => (gpg j).map (sg sa)) pp cpp gpp pz cpz gpz pv cpv gpv gl tr gls glz glt glv gl_length gls cgls ggls glz cglz gglz glt cglt gglt fu tr fus fuz fut fuv fu_length fus cfus gfus fuz cfuz gfuz fut cfut gfut pa tr pas paz pat pav pa_length pat cpat gpat)) [23, 24, 25, 26, 27, 0, 1, 2, 3, 4, 5, 6, 7, 8, 9, 10, 11, 12, 13, 14, 15, 16, 17, 18, 19, 20, 21, 22] rfl
                have hD9 := hD.sb (wq := (wz_204 h0 pr kn lt h0_localCount pe n59 h0_gives h0_depth h0_loopDepth to bo cs se pr gl fu pa pf sf pk pg pp pz pv n61 n60 pr_scanner_r pr_stepCount pr_open pr_twoSides pr_waiting_r pr_waitingPlaces_r pr_waitingCount pe cpe n57 bo bob n58 bob cbob n56 kn tr kns knz knt knv kn_length kns ckns gkns knz cknz gknz knt cknt gknt knv cknv gknv tr tx tr_length tx ctx gtx pf cpf gpf pk cpk gpk pg cpg (fun j => (gpg j).map (sg sa)) pp cpp gpp pz cpz gpz pv cpv gpv gl tr gls glz glt glv gl_length gls cgls ggls glz cglz gglz glt cglt gglt fu tr fus fuz fut fuv fu_length fus cfus gfus fuz cfuz gfuz fut cfut gfut pa tr pas paz pat pav pa_length pat cpat gpat)) [23, 24, 25, 26, 27, 0, 1, 2, 3, 4, 5, 6, 7, 8, 9, 10, 11, 12, 13, 14, 15, 16, 17, 18, 19, 20, 21, 22] (by decide) rfl
                exact tz_leave rfl hno hlocks (fun t ht hW => ⟨⟨(n56, n57, n58, n59, n60, n61), ⟨⟨bn58, bn59⟩, by rw [ht]; exact hXX.moved hW.alike⟩, va_P.he ht.symm hP9, va_K.moved hW.alike hK, hD9⟩, hS.F ht⟩) hS.2.2
              obtain ⟨n62, n63, n64, n65, n66, n67⟩ := u
              try dsimp only at hw
              obtain ⟨bn64, bn65, xr55⟩ := hw
              try clear hw
              obtain ⟨hP1, hK1, hD1⟩ := hB
              replace hP1 := va_P.he ht hP1
              obtain ⟨hP, hD⟩ := va_join (wr := (wz_207 kn tr kns knz knt knv kn_length kns ckns gkns knz cknz gknz knt cknt gknt knv cknv gknv tr tx tr_length tx ctx gtx pf cpf gpf pk cpk gpk pg cpg (fun j => (gpg j).map (sg sa)) pp cpp gpp pz cpz gpz pv cpv gpv gl tr gls glz glt glv gl_length gls cgls ggls glz cglz gglz glt cglt gglt fu tr fus fuz fut fuv fu_length fus cfus gfus fuz cfuz gfuz fut cfut gfut pa tr pas paz pat pav pa_length pat cpat gpat)) (w1 := (wz_160 h0 pr kn lt h0_localCount pe n65 h0_gives h0_depth h0_loopDepth to bo cs se pr gl fu pa pf sf pk pg pp pz pv n67 n66 pr_scanner_r pr_stepCount pr_open pr_twoSides pr_waiting_r pr_waitingPlaces_r pr_waitingCount pe cpe n63 bo bob n64 bob cbob n62)) hP hD [0, 1, 2, 3, 4] [5, 6, 7, 8, 9, 10, 11, 12, 13, 14, 15, 16, 17, 18, 19, 20, 21, 22, 23, 24, 25, 26, 27] rfl rfl (by decide) (by decide) hk1 hFc hP1 hD1
              clear hPc hDc hKc hFc hz1 hk1 hP1 hK1 hD1
              rename Heap => H
              have hP : va_P (dC, dI) cls (wz_208 kn tr kns knz knt knv kn_length kns ckns gkns knz cknz gknz knt cknt gknt knv cknv gknv tr tx tr_length tx ctx gtx pf cpf gpf pk cpk gpk pg cpg (fun j => (gpg j).map (sg sa)) pp cpp gpp pz cpz gpz pv cpv gpv gl tr gls glz glt glv gl_length gls cgls ggls glz cglz gglz glt cglt gglt fu tr fus fuz fut fuv fu_length fus cfus gfus fuz cfuz gfuz fut cfut gfut pa tr pas paz pat pav pa_length pat cpat gpat h0 pr kn lt h0_localCount pe n65 h0_gives h0_depth h0_loopDepth to bo cs se pr gl fu pa pf sf pk pg pp pz pv n67 n66 pr_scanner_r pr_stepCount pr_open pr_twoSides pr_waiting_r pr_waitingPlaces_r pr_waitingCount pe cpe n63 bo bob n64 bob cbob n62) H := hP
              have hD : va_D A (wz_208 kn tr kns knz knt knv kn_length kns ckns gkns knz cknz gknz knt cknt gknt knv cknv gknv tr tx tr_length tx ctx gtx pf cpf gpf pk cpk gpk pg cpg (fun j => (gpg j).map (sg sa)) pp cpp gpp pz cpz gpz pv cpv gpv gl tr gls glz glt glv gl_length gls cgls ggls glz cglz gglz glt cglt gglt fu tr fus fuz fut fuv fu_length fus cfus gfus fuz cfuz gfuz fut cfut gfut pa tr pas paz pat pav pa_length pat cpat gpat h0 pr kn lt h0_localCount pe n65 h0_gives h0_depth h0_loopDepth to bo cs se pr gl fu pa pf sf pk pg pp pz pv n67 n66 pr_scanner_r pr_stepCount pr_open pr_twoSides pr_waiting_r pr_waitingPlaces_r pr_waitingCount pe cpe n63 bo bob n64 bob cbob n62) := hD
              refine lv_goto (tgt := 228) hx hb d_CO_codeValue_188 (by decide) ?_
              have hP9 := hP.sb (wq := (wz_204 h0 pr kn lt h0_localCount pe n65 h0_gives h0_depth h0_loopDepth to bo cs se pr gl fu pa pf sf pk pg pp pz pv n67 n66 pr_scanner_r pr_stepCount pr_open pr_twoSides pr_waiting_r pr_waitingPlaces_r pr_waitingCount pe cpe n63 bo bob n64 bob cbob n62 kn tr kns knz knt knv kn_length kns ckns gkns knz cknz gknz knt cknt gknt knv cknv gknv tr tx tr_length tx ctx gtx pf cpf gpf pk cpk gpk pg cpg (fun j => (gpg j).map (sg sa)) pp cpp gpp pz cpz gpz pv cpv gpv gl tr gls glz glt glv gl_length gls cgls ggls glz cglz gglz glt cglt gglt fu tr fus fuz fut fuv fu_length fus cfus gfus fuz cfuz gfuz fut cfut gfut pa tr pas paz pat pav pa_length pat cpat gpat)) [23, 24, 25, 26, 27, 0, 1, 2, 3, 4, 5, 6, 7, 8, 9, 10, 11, 12, 13, 14, 15, 16, 17, 18, 19, 20, 21, 22] rfl
              have hD9 := hD.sb (wq := (wz_204 h0 pr kn lt h0_localCount pe n65 h0_gives h0_depth h0_loopDepth to bo cs se pr gl fu pa pf sf pk pg pp pz pv n67 n66 pr_scanner_r pr_stepCount pr_open pr_twoSides pr_waiting_r pr_waitingPlaces_r pr_waitingCount pe cpe n63 bo bob n64 bob cbob n62 kn tr kns knz knt knv kn_length kns ckns gkns knz cknz gknz knt cknt gknt knv cknv gknv tr tx tr_length tx ctx gtx pf cpf gpf pk cpk gpk pg cpg (fun j => (gpg j).map (sg sa)) pp cpp gpp pz cpz gpz pv cpv gpv gl tr gls glz glt glv gl_length gls cgls ggls glz cglz gglz glt cglt gglt fu tr fus fuz fut fuv fu_length fus cfus gfus fuz cfuz gfuz fut cfut gfut pa tr pas paz pat pav pa_length pat cpat gpat)) [23, 24, 25, 26, 27, 0, 1, 2, 3, 4, 5, 6, 7, 8, 9, 10, 11, 12, 13, 14, 15, 16, 17, 18, 19, 20, 21, 22] (by decide) rfl
              exact tz_up (fun _ => rfl) (W.vret hx hb hr (fun t ht hW => ⟨⟨(n62, n63, n64, n65, n66, n67), ⟨rfl, ⟨bn64, bn65, by (try dsimp only); obtain ⟨y1, y2, y3, y4⟩ := xr55; rw [show (h0_pendingCount.toInt - 1).toNat = h0_pendingCount.toNatClampNeg - 1 from by (first | (apply Int.le_antisymm <;> omega) | omega)] at y1 y2 y3 y4; rw [show (h0_pendingCount.toInt - 2).toNat = h0_pendingCount.toNatClampNeg - 2 from by (first | (apply Int.le_antisymm <;> omega) | omega)] at y4; exact cv_pre hI.out s9 y1 (fun z => ⟨by have := (y2 z).1; clear y2 y3 y4; have := i32_clamp (x := n65) (by (first | (apply Int.le_antisymm <;> omega) | omega)); (first | (apply Int.le_antisymm <;> omega) | omega), (y2 z).2.1, (y2 z).2.2.1, (y2 z).2.2.2.2⟩) (fun z => ⟨by have := (y3 z).1; clear y2 y3 y4; have := i32_clamp (x := n65) (by (first | (apply Int.le_antisymm <;> omega) | omega)); (first | (apply Int.le_antisymm <;> omega) | omega), (y3 z).2.1, (y3 z).2.2.2⟩) (fun z => ⟨by have := (y4 z).1; clear y2 y3 y4; have := i32_clamp (x := n65) (by (first | (apply Int.le_antisymm <;> omega) | omega)); (first | (apply Int.le_antisymm <;> omega) | omega), (y4 z).2.1, (y4 z).2.2.2⟩)⟩⟩, va_P.he ht.symm hP9, va_K.moved hW.alike hK, hD9⟩, hS.F ht⟩) hS.2.2 d_CO_codeValue_228)
            · skip
              by_cases g19_191 : x2.toInt = 6
              · have ho19 : tab_off 189 0 6 #[41, 91, 99, 107, 124, 155, 172] x2.toInt = 172 := by rw [g19_191]; rfl
                refine lv_tab (tgt := 191) hx hb d_CO_codeValue_19 (by decide) ho19 (by decide) ?_
                clear ho19
                have h9 : (gpk p0.toNatClampNeg).toInt = 6 := by rw [← ex2]; (first | (apply Int.le_antisymm <;> omega) | omega)
                have s9 := sI_6 hs.out h9
                have kk := s9.1
                have q1 := hI.out.1
                have q0 : ∃ T, gS = 0 :: T := by obtain ⟨-, -, T8, e8, -⟩ := s9; exact ⟨T8, e8⟩
                obtain ⟨T7, e7⟩ := q0
                rw [e7] at q1
                have q1 := cJ_pos q1 (by decide)
                refine lv_aload_n hx hb d_CO_codeValue_191 rfl (lv_at hl 1 rfl) ?_
                refine lv_aload_n hx hb d_CO_codeValue_192 rfl (lv_at hl 0 rfl) ?_
                refine lv_aload_n hx hb d_CO_codeValue_193 rfl (lv_at hl 1 rfl) ?_
                refine va_get (D := (dC, dI)) (ci := 2) (v := .ref pr) (C := R_CO) (T := F_CO) (N := 13) hx hb hts i_CO hown hK hP 0 rfl rfl 0 (by decide) (hts _ kF_CO_36) (fun _ h9 => h9) rfl d_CO_codeValue_194 ?_
                refine va_get (D := (dC, dI)) (ci := 6) (v := .ref pp) (C := R_PR) (T := F_PR) (N := 19) hx hb hts i_PR hown hK hP 1 rfl rfl 7 (by decide) (hts _ kF_CO_193) (fun _ h9 => h9) rfl d_CO_codeValue_197 ?_
                refine lv_iload_n hx hb d_CO_codeValue_200 rfl (lv_at hl 2 rfl) ?_
                have g201 : vp_in p0 4100 := vp_in_iff.mpr ⟨by (first | (apply Int.le_antisymm <;> omega) | omega), by (first | (apply Int.le_antisymm <;> omega) | omega)⟩
                refine va_iald hx hb hK hP 15 10 rfl rfl g201 d_CO_codeValue_201 ?_
                refine lv_topi (fun x68 ex68 => ?_)
                have hPc := hP.sb (wq := (wz_160 h0 pr kn lt h0_localCount pe h0_pendingCount h0_gives h0_depth h0_loopDepth to bo cs se pr gl fu pa pf sf pk pg pp pz pv pr_reason pr_place pr_scanner_r pr_stepCount pr_open pr_twoSides pr_waiting_r pr_waitingPlaces_r pr_waitingCount pe cpe gpe bo bob bo_length bob cbob gbob)) [0, 1, 2, 3, 4] rfl
                have hDc := hD.sb (wq := (wz_160 h0 pr kn lt h0_localCount pe h0_pendingCount h0_gives h0_depth h0_loopDepth to bo cs se pr gl fu pa pf sf pk pg pp pz pv pr_reason pr_place pr_scanner_r pr_stepCount pr_open pr_twoSides pr_waiting_r pr_waitingPlaces_r pr_waitingCount pe cpe gpe bo bob bo_length bob cbob gbob)) [0, 1, 2, 3, 4] (by decide) rfl
                have hKc := hK.sb (tyq := [(cpe, .int), (cbob, .byte)]) [0, 1] rfl
                have hFc := va_free (wc := (wz_160 h0 pr kn lt h0_localCount pe h0_pendingCount h0_gives h0_depth h0_loopDepth to bo cs se pr gl fu pa pf sf pk pg pp pz pv pr_reason pr_place pr_scanner_r pr_stepCount pr_open pr_twoSides pr_waiting_r pr_waitingPlaces_r pr_waitingCount pe cpe gpe bo bob bo_length bob cbob gbob)) hD hS hA [0, 1, 2, 3, 4] rfl
                refine tq_callv (tz_runV (As := [.ref (sg sa ka), .int x68]) (rest := []) ⟨hx, hb, hml, hown, hts⟩ (c_CO_codeConvert l hlt dC dI H.size sa h0 pr kn lt pe to bo cs se gl fu pa pf sf pk pg pp pz pv pr_scanner_r pr_waiting_r pr_waitingPlaces_r bob cpe cbob h0_localCount h0_pendingCount h0_gives h0_depth h0_loopDepth pr_reason pr_place pr_stepCount pr_open pr_twoSides pr_waitingCount gpe bo_length gbob (b_h0_pendingCount) (b_bo_length) ka x68 (b9) (by (first | (apply Int.le_antisymm <;> omega) | omega)) (kk) (by (first | (apply Int.le_antisymm <;> omega) | omega))) (cwV 2 hts (gV kM_CO_203 kV_CO_codeConvert kS_CO_codeConvert kI_CO kC_CO_codeConvert) rfl rfl rfl (by decide +kernel) ⟨Nat.le_of_ble_eq_true rfl, Nat.le_of_ble_eq_true rfl⟩) ⟨fun a U g mk z => by obtain ⟨z0, z1, zP, zK, zD, zS⟩ := z; exact ⟨z0, z1, zP, va_K.moved (u := U) (U := U.calling g mk a) (Vm.Alike.refl U.vm) zK, zD, sw.same (u := U) (U := U.calling g mk a) rfl zS⟩, va_recv hKc hPc (ci := 2) (q0 := 0) rfl rfl, fun U hU hW => ⟨rfl, by rw [hU], va_P.he hU.symm hPc, va_K.moved hW.alike hKc, hDc.weaken (fun _ _ _ _ => trivial), hSW.call hS hFc hW hU⟩⟩ rfl rfl hl.1 rfl (lv_room (Nat.le_of_ble_eq_true rfl)) d_CO_codeValue_202 ⟨Nat.le_of_ble_eq_true rfl, Nat.le_of_ble_eq_true rfl⟩) hS (fun q _ h => hFc q h) hFc (fun u t H1 locs ht hvm hw hB hz1 hk1 hS => ?_) (fun xx u t H1 locs ht hvm hw hXX hB hz1 hk1 hS => ?_)
                rotate_left
                · skip
                  obtain ⟨n70, n71, n72, n73, n74, n75⟩ := u
                  try dsimp only at hw
                  obtain ⟨bn72, bn73⟩ := hw
                  obtain ⟨hP1, hK1, hD1⟩ := hB
                  replace hP1 := va_P.he ht hP1
                  obtain ⟨hP, hD⟩ := va_join (wr := (wz_207 kn tr kns knz knt knv kn_length kns ckns gkns knz cknz gknz knt cknt gknt knv cknv gknv tr tx tr_length tx ctx gtx pf cpf gpf pk cpk gpk pg cpg (fun j => (gpg j).map (sg sa)) pp cpp gpp pz cpz gpz pv cpv gpv gl tr gls glz glt glv gl_length gls cgls ggls glz cglz gglz glt cglt gglt fu tr fus fuz fut fuv fu_length fus cfus gfus fuz cfuz gfuz fut cfut gfut pa tr pas paz pat pav pa_length pat cpat gpat)) (w1 := (wz_160 h0 pr kn lt h0_localCount pe n73 h0_gives h0_depth h0_loopDepth to bo cs se pr gl fu pa pf sf pk pg pp pz pv n75 n74 pr_scanner_r pr_stepCount pr_open pr_twoSides pr_waiting_r pr_waitingPlaces_r pr_waitingCount pe cpe n71 bo bob n72 bob cbob n70)) hP hD [0, 1, 2, 3, 4] [5, 6, 7, 8, 9, 10, 11, 12, 13, 14, 15, 16, 17, 18, 19, 20, 21, 22, 23, 24, 25, 26, 27] rfl rfl (by decide) (by decide) hk1 hFc hP1 hD1
                  have hP : va_P (dC, dI) cls (wz_208 kn tr kns knz knt knv kn_length kns ckns gkns knz cknz gknz knt cknt gknt knv cknv gknv tr tx tr_length tx ctx gtx pf cpf gpf pk cpk gpk pg cpg (fun j => (gpg j).map (sg sa)) pp cpp gpp pz cpz gpz pv cpv gpv gl tr gls glz glt glv gl_length gls cgls ggls glz cglz gglz glt cglt gglt fu tr fus fuz fut fuv fu_length fus cfus gfus fuz cfuz gfuz fut cfut gfut pa tr pas paz pat pav pa_length pat cpat gpat h0 pr kn lt h0_localCount pe n73 h0_gives h0_depth h0_loopDepth to bo cs se pr gl fu pa pf sf pk pg pp pz pv n75 n74 pr_scanner_r pr_stepCount pr_open pr_twoSides pr_waiting_r pr_waitingPlaces_r pr_waitingCount pe cpe n71 bo bob n72 bob cbob n70) H1 := hP
                  have hD : va_D A (wz_208 kn tr kns knz knt knv kn_length kns ckns gkns knz cknz gknz knt cknt gknt knv cknv gknv tr tx tr_length tx ctx gtx pf cpf gpf pk cpk gpk pg cpg (fun j => (gpg j).map (sg sa)) pp cpp gpp pz cpz gpz pv cpv gpv gl tr gls glz glt glv gl_length gls cgls ggls glz cglz gglz glt cglt gglt fu tr fus fuz fut fuv fu_length fus cfus gfus fuz cfuz gfuz fut cfut gfut pa tr pas paz pat pav pa_length pat cpat gpat h0 pr kn lt h0_localCount pe n73 h0_gives h0_depth h0_loopDepth to bo cs se pr gl fu pa pf sf pk pg pp pz pv n75 n74 pr_scanner_r pr_stepCount pr_open pr_twoSides pr_waiting_r pr_waitingPlaces_r pr_waitingCount pe cpe n71 bo bob n72 bob cbob n70) := hD
                  have hP9 := hP.sb (wq := (wz_204 h0 pr kn lt h0_localCount pe n73 h0_gives h0_depth h0_loopDepth to bo cs se pr gl fu pa pf sf pk pg pp pz pv n75 n74 pr_scanner_r pr_stepCount pr_open pr_twoSides pr_waiting_r pr_waitingPlaces_r pr_waitingCount pe cpe n71 bo bob n72 bob cbob n70 kn tr kns knz knt knv kn_length kns ckns gkns knz cknz gknz knt cknt gknt knv cknv gknv tr tx tr_length tx ctx gtx pf cpf gpf pk cpk gpk pg cpg (fun j => (gpg j).map (sg sa)) pp cpp gpp pz cpz gpz pv cpv gpv gl tr gls glz glt glv gl_length gls cgls ggls glz cglz gglz glt cglt gglt fu tr fus fuz fut fuv fu_length fus cfus gfus fuz cfuz gfuz fut cfut gfut pa tr pas paz pat pav pa_length pat cpat gpat)) [23, 24, 25, 26, 27, 0, 1, 2, 3, 4, 5, 6, 7, 8, 9, 10, 11, 12, 13, 14, 15, 16, 17, 18, 19, 20, 21, 22] rfl
                  have hD9 := hD.sb (wq := (wz_204 h0 pr kn lt h0_localCount pe n73 h0_gives h0_depth h0_loopDepth to bo cs se pr gl fu pa pf sf pk pg pp pz pv n75 n74 pr_scanner_r pr_stepCount pr_open pr_twoSides pr_waiting_r pr_waitingPlaces_r pr_waitingCount pe cpe n71 bo bob n72 bob cbob n70 kn tr kns knz knt knv kn_length kns ckns gkns knz cknz gknz knt cknt gknt knv cknv gknv tr tx tr_length tx ctx gtx pf cpf gpf pk cpk gpk pg cpg (fun j => (gpg j).map (sg sa)) pp cpp gpp pz cpz gpz pv cpv gpv gl tr gls glz glt glv gl_length gls cgls ggls glz cglz gglz glt cglt gglt fu tr fus fuz fut fuv fu_length fus cfus gfus fuz cfuz gfuz fut cfut gfut pa tr pas paz pat pav pa_length pat cpat gpat)) [23, 24, 25, 26, 27, 0, 1, 2, 3, 4, 5, 6, 7, 8, 9, 10, 11, 12, 13, 14, 15, 16, 17, 18, 19, 20, 21, 22] (by decide) rfl
                  exact tz_leave rfl hno hlocks (fun t ht hW => ⟨⟨(n70, n71, n72, n73, n74, n75), ⟨⟨bn72, bn73⟩, by rw [ht]; exact hXX.moved hW.alike⟩, va_P.he ht.symm hP9, va_K.moved hW.alike hK, hD9⟩, hS.F ht⟩) hS.2.2
                obtain ⟨n76, n77, n78, n79, n80, n81⟩ := u
                try dsimp only at hw
                obtain ⟨bn78, bn79, xr69⟩ := hw
                try clear hw
                obtain ⟨hP1, hK1, hD1⟩ := hB
                replace hP1 := va_P.he ht hP1
                obtain ⟨hP, hD⟩ := va_join (wr := (wz_207 kn tr kns knz knt knv kn_length kns ckns gkns knz cknz gknz knt cknt gknt knv cknv gknv tr tx tr_length tx ctx gtx pf cpf gpf pk cpk gpk pg cpg (fun j => (gpg j).map (sg sa)) pp cpp gpp pz cpz gpz pv cpv gpv gl tr gls glz glt glv gl_length gls cgls ggls glz cglz gglz glt cglt gglt fu tr fus fuz fut fuv fu_length fus cfus gfus fuz cfuz gfuz fut cfut gfut pa tr pas paz pat pav pa_length pat cpat gpat)) (w1 := (wz_160 h0 pr kn lt h0_localCount pe n79 h0_gives h0_depth h0_loopDepth to bo cs se pr gl fu pa pf sf pk pg pp pz pv n81 n80 pr_scanner_r pr_stepCount pr_open pr_twoSides pr_waiting_r pr_waitingPlaces_r pr_waitingCount pe cpe n77 bo bob n78 bob cbob n76)) hP hD [0, 1, 2, 3, 4] [5, 6, 7, 8, 9, 10, 11, 12, 13, 14, 15, 16, 17, 18, 19, 20, 21, 22, 23, 24, 25, 26, 27] rfl rfl (by decide) (by decide) hk1 hFc hP1 hD1
                clear hPc hDc hKc hFc hz1 hk1 hP1 hK1 hD1
                rename Heap => H
                have hP : va_P (dC, dI) cls (wz_208 kn tr kns knz knt knv kn_length kns ckns gkns knz cknz gknz knt cknt gknt knv cknv gknv tr tx tr_length tx ctx gtx pf cpf gpf pk cpk gpk pg cpg (fun j => (gpg j).map (sg sa)) pp cpp gpp pz cpz gpz pv cpv gpv gl tr gls glz glt glv gl_length gls cgls ggls glz cglz gglz glt cglt gglt fu tr fus fuz fut fuv fu_length fus cfus gfus fuz cfuz gfuz fut cfut gfut pa tr pas paz pat pav pa_length pat cpat gpat h0 pr kn lt h0_localCount pe n79 h0_gives h0_depth h0_loopDepth to bo cs se pr gl fu pa pf sf pk pg pp pz pv n81 n80 pr_scanner_r pr_stepCount pr_open pr_twoSides pr_waiting_r pr_waitingPlaces_r pr_waitingCount pe cpe n77 bo bob n78 bob cbob n76) H := hP
                have hD : va_D A (wz_208 kn tr kns knz knt knv kn_length kns ckns gkns knz cknz gknz knt cknt gknt knv cknv gknv tr tx tr_length tx ctx gtx pf cpf gpf pk cpk gpk pg cpg (fun j => (gpg j).map (sg sa)) pp cpp gpp pz cpz gpz pv cpv gpv gl tr gls glz glt glv gl_length gls cgls ggls glz cglz gglz glt cglt gglt fu tr fus fuz fut fuv fu_length fus cfus gfus fuz cfuz gfuz fut cfut gfut pa tr pas paz pat pav pa_length pat cpat gpat h0 pr kn lt h0_localCount pe n79 h0_gives h0_depth h0_loopDepth to bo cs se pr gl fu pa pf sf pk pg pp pz pv n81 n80 pr_scanner_r pr_stepCount pr_open pr_twoSides pr_waiting_r pr_waitingPlaces_r pr_waitingCount pe cpe n77 bo bob n78 bob cbob n76) := hD
                refine lv_goto (tgt := 228) hx hb d_CO_codeValue_205 (by decide) ?_
                have hP9 := hP.sb (wq := (wz_204 h0 pr kn lt h0_localCount pe n79 h0_gives h0_depth h0_loopDepth to bo cs se pr gl fu pa pf sf pk pg pp pz pv n81 n80 pr_scanner_r pr_stepCount pr_open pr_twoSides pr_waiting_r pr_waitingPlaces_r pr_waitingCount pe cpe n77 bo bob n78 bob cbob n76 kn tr kns knz knt knv kn_length kns ckns gkns knz cknz gknz knt cknt gknt knv cknv gknv tr tx tr_length tx ctx gtx pf cpf gpf pk cpk gpk pg cpg (fun j => (gpg j).map (sg sa)) pp cpp gpp pz cpz gpz pv cpv gpv gl tr gls glz glt glv gl_length gls cgls ggls glz cglz gglz glt cglt gglt fu tr fus fuz fut fuv fu_length fus cfus gfus fuz cfuz gfuz fut cfut gfut pa tr pas paz pat pav pa_length pat cpat gpat)) [23, 24, 25, 26, 27, 0, 1, 2, 3, 4, 5, 6, 7, 8, 9, 10, 11, 12, 13, 14, 15, 16, 17, 18, 19, 20, 21, 22] rfl
                have hD9 := hD.sb (wq := (wz_204 h0 pr kn lt h0_localCount pe n79 h0_gives h0_depth h0_loopDepth to bo cs se pr gl fu pa pf sf pk pg pp pz pv n81 n80 pr_scanner_r pr_stepCount pr_open pr_twoSides pr_waiting_r pr_waitingPlaces_r pr_waitingCount pe cpe n77 bo bob n78 bob cbob n76 kn tr kns knz knt knv kn_length kns ckns gkns knz cknz gknz knt cknt gknt knv cknv gknv tr tx tr_length tx ctx gtx pf cpf gpf pk cpk gpk pg cpg (fun j => (gpg j).map (sg sa)) pp cpp gpp pz cpz gpz pv cpv gpv gl tr gls glz glt glv gl_length gls cgls ggls glz cglz gglz glt cglt gglt fu tr fus fuz fut fuv fu_length fus cfus gfus fuz cfuz gfuz fut cfut gfut pa tr pas paz pat pav pa_length pat cpat gpat)) [23, 24, 25, 26, 27, 0, 1, 2, 3, 4, 5, 6, 7, 8, 9, 10, 11, 12, 13, 14, 15, 16, 17, 18, 19, 20, 21, 22] (by decide) rfl
                exact tz_up (fun _ => rfl) (W.vret hx hb hr (fun t ht hW => ⟨⟨(n76, n77, n78, n79, n80, n81), ⟨rfl, ⟨bn78, bn79, by (try dsimp only); obtain ⟨y1, y2, ⟨y, y3, y4⟩, M9, y5, y6, y7⟩ := xr69; rw [show (h0_pendingCount.toInt - 1).toNat = h0_pendingCount.toNatClampNeg - 1 from by (first | (apply Int.le_antisymm <;> omega) | omega)] at y2 y3; rw [y5]; exact cv_conv hI.out s9 (by clear y6; have := i32_clamp (x := n79) (by (first | (apply Int.le_antisymm <;> omega) | omega)); (first | (apply Int.le_antisymm <;> omega) | omega)) y2 y3 y4 y6⟩⟩, va_P.he ht.symm hP9, va_K.moved hW.alike hK, hD9⟩, hS.F ht⟩) hS.2.2 d_CO_codeValue_228)
              · skip
                have ho19 : tab_off 189 0 6 #[41, 91, 99, 107, 124, 155, 172] x2.toInt = 189 := by
                  unfold tab_off
                  split
                  · rfl
                  · exfalso; (first | (apply Int.le_antisymm <;> omega) | omega)
                refine lv_tab (tgt := 208) hx hb d_CO_codeValue_19 (by decide) ho19 (by decide) ?_
                clear ho19
                have h9 : (gpk p0.toNatClampNeg).toInt = 7 := by rw [← ex2]; (first | (apply Int.le_antisymm <;> omega) | omega)
                have s9 := sI_7 hs.out h9
                have v9 := cv_call0 hI.out hlm.out s9
                refine lv_aload_n hx hb d_CO_codeValue_208 rfl (lv_at hl 0 rfl) ?_
                refine va_gets (C := "WaferForge$Sign") (n := "NAME") (d := "LWaferForge$Sign;") (v := .ref (sg sa 2)) hx hb ((hSW.2.2.2.1.1 2 (by decide)).1) hS hown (hts _ kF_CO_206) (fun _ h9 => h9) d_CO_codeValue_209 ?_
                refine lv_acmp_ne (rx := some (sg sa ka)) (ry := some (sg sa 2)) (tgt := 223) hx hb d_CO_codeValue_212 (by decide) (fun c212 => ?_) (fun c212 => ?_)
                · have q212 : ka ≠ 2 := fun z => c212 (by rw [z])
                  refine lv_aload_n hx hb d_CO_codeValue_223 rfl (lv_at hl 1 rfl) ?_
                  refine lv_iload_n hx hb d_CO_codeValue_224 rfl (lv_at hl 2 rfl) ?_
                  have hPc := hP.sb (wq := (wz_181 h0 pr kn lt h0_localCount pe h0_pendingCount h0_gives h0_depth h0_loopDepth to bo cs se pr gl fu pa pf sf pk pg pp pz pv pr_reason pr_place pr_scanner_r pr_stepCount pr_open pr_twoSides pr_waiting_r pr_waitingPlaces_r pr_waitingCount pe cpe gpe bo bob bo_length bob cbob gbob pg cpg (fun j => (gpg j).map (sg sa)) pp cpp gpp pv cpv gpv)) [0, 1, 2, 3, 4, 14, 15, 17] rfl
                  have hDc := hD.sb (wq := (wz_181 h0 pr kn lt h0_localCount pe h0_pendingCount h0_gives h0_depth h0_loopDepth to bo cs se pr gl fu pa pf sf pk pg pp pz pv pr_reason pr_place pr_scanner_r pr_stepCount pr_open pr_twoSides pr_waiting_r pr_waitingPlaces_r pr_waitingCount pe cpe gpe bo bob bo_length bob cbob gbob pg cpg (fun j => (gpg j).map (sg sa)) pp cpp gpp pv cpv gpv)) [0, 1, 2, 3, 4, 14, 15, 17] (by decide) rfl
                  have hKc := hK.sb (tyq := [(cpe, .int), (cbob, .byte), (cpg, .object "WaferForge$Sign"), (cpp, .int), (cpv, .long)]) [0, 1, 9, 10, 12] rfl
                  have hFc := va_free (wc := (wz_181 h0 pr kn lt h0_localCount pe h0_pendingCount h0_gives h0_depth h0_loopDepth to bo cs se pr gl fu pa pf sf pk pg pp pz pv pr_reason pr_place pr_scanner_r pr_stepCount pr_open pr_twoSides pr_waiting_r pr_waitingPlaces_r pr_waitingCount pe cpe gpe bo bob bo_length bob cbob gbob pg cpg (fun j => (gpg j).map (sg sa)) pp cpp gpp pv cpv gpv)) hD hS hA [0, 1, 2, 3, 4, 14, 15, 17] rfl
                  refine tq_callv (tz_runV (As := [.int p0]) (rest := []) ⟨hx, hb, hml, hown, hts⟩ (c_CO_codeOwnCall l hlt dC dI H.size sa h0 pr kn lt pe to bo cs se gl fu pa pf sf pk pg pp pz pv pr_scanner_r pr_waiting_r pr_waitingPlaces_r bob cpe cbob cpg cpp cpv h0_localCount h0_pendingCount h0_gives h0_depth h0_loopDepth pr_reason pr_place pr_stepCount pr_open pr_twoSides pr_waitingCount gpe bo_length gbob gpg gpp gpv ka (b_h0_pendingCount) (b_bo_length) p0 (by (first | (apply Int.le_antisymm <;> omega) | omega)) (by (first | (apply Int.le_antisymm <;> omega) | omega)) (hsg) (by (first | (apply Int.le_antisymm <;> omega) | omega)) (by (first | (apply Int.le_antisymm <;> omega) | omega)) (by (first | (apply Int.le_antisymm <;> omega) | omega))) (cwV 1 hts (gV kM_CO_213 kV_CO_codeOwnCall kS_CO_codeOwnCall kI_CO kC_CO_codeOwnCall) rfl rfl rfl (by decide +kernel) ⟨Nat.le_of_ble_eq_true rfl, Nat.le_of_ble_eq_true rfl⟩) ⟨fun a U g mk z => by obtain ⟨z0, z1, zP, zK, zD, zS⟩ := z; exact ⟨z0, z1, zP, va_K.moved (u := U) (U := U.calling g mk a) (Vm.Alike.refl U.vm) zK, zD, sw.same (u := U) (U := U.calling g mk a) rfl zS⟩, va_recv hKc hPc (ci := 2) (q0 := 0) rfl rfl, fun U hU hW => ⟨rfl, by rw [hU], va_P.he hU.symm hPc, va_K.moved hW.alike hKc, hDc.weaken (fun _ _ _ _ => trivial), hSW.call hS hFc hW hU⟩⟩ rfl rfl hl.1 rfl (lv_room (Nat.le_of_ble_eq_true rfl)) d_CO_codeValue_225 ⟨Nat.le_of_ble_eq_true rfl, Nat.le_of_ble_eq_true rfl⟩) hS (fun q _ h => hFc q h) hFc (fun u t H1 locs ht hvm hw hB hz1 hk1 hS => ?_) (fun xx u t H1 locs ht hvm hw hXX hB hz1 hk1 hS => ?_)
                  rotate_left
                  · skip
                    obtain ⟨n83, n84, n85, n86, n87, n88⟩ := u
                    try dsimp only at hw
                    obtain ⟨bn85, bn86⟩ := hw
                    obtain ⟨hP1, hK1, hD1⟩ := hB
                    replace hP1 := va_P.he ht hP1
                    obtain ⟨hP, hD⟩ := va_join (wr := [(kn, .inr (5, [.ref tr, .ref kns, .ref knz, .ref knt, .ref knv, .int kn_length])), (kns, .inl (ckns, 50, .inl gkns)), (knz, .inl (cknz, 50, .inl gknz)), (knt, .inl (cknt, 50, .inl gknt)), (knv, .inl (cknv, 50, .inr (.inl gknv))), (tr, .inr (1, [.ref tx, .int tr_length])), (tx, .inl (ctx, 2000, .inl gtx)), (pf, .inl (cpf, 21, .inl gpf)), (pk, .inl (cpk, 4100, .inl gpk)), (pz, .inl (cpz, 4100, .inl gpz)), (gl, .inr (5, [.ref tr, .ref gls, .ref glz, .ref glt, .ref glv, .int gl_length])), (gls, .inl (cgls, 20, .inl ggls)), (glz, .inl (cglz, 20, .inl gglz)), (glt, .inl (cglt, 20, .inl gglt)), (fu, .inr (5, [.ref tr, .ref fus, .ref fuz, .ref fut, .ref fuv, .int fu_length])), (fus, .inl (cfus, 20, .inl gfus)), (fuz, .inl (cfuz, 20, .inl gfuz)), (fut, .inl (cfut, 20, .inl gfut)), (pa, .inr (5, [.ref tr, .ref pas, .ref paz, .ref pat, .ref pav, .int pa_length])), (pat, .inl (cpat, 160, .inl gpat))]) (w1 := (wz_181 h0 pr kn lt h0_localCount pe n86 h0_gives h0_depth h0_loopDepth to bo cs se pr gl fu pa pf sf pk pg pp pz pv n88 n87 pr_scanner_r pr_stepCount pr_open pr_twoSides pr_waiting_r pr_waitingPlaces_r pr_waitingCount pe cpe n84 bo bob n85 bob cbob n83 pg cpg (fun j => (gpg j).map (sg sa)) pp cpp gpp pv cpv gpv)) hP hD [0, 1, 2, 3, 4, 14, 15, 17] [5, 6, 7, 8, 9, 10, 11, 12, 13, 16, 18, 19, 20, 21, 22, 23, 24, 25, 26, 27] rfl rfl (by decide) (by decide) hk1 hFc hP1 hD1
                    have hP : va_P (dC, dI) cls (wz_210 kn tr kns knz knt knv kn_length kns ckns gkns knz cknz gknz knt cknt gknt knv cknv gknv tr tx tr_length tx ctx gtx pf cpf gpf pk cpk gpk pz cpz gpz gl tr gls glz glt glv gl_length gls cgls ggls glz cglz gglz glt cglt gglt fu tr fus fuz fut fuv fu_length fus cfus gfus fuz cfuz gfuz fut cfut gfut pa tr pas paz pat pav pa_length pat cpat gpat h0 pr kn lt h0_localCount pe n86 h0_gives h0_depth h0_loopDepth to bo cs se pr gl fu pa pf sf pk pg pp pz pv n88 n87 pr_scanner_r pr_stepCount pr_open pr_twoSides pr_waiting_r pr_waitingPlaces_r pr_waitingCount pe cpe n84 bo bob n85 bob cbob n83 pg cpg (fun j => (gpg j).map (sg sa)) pp cpp gpp pv cpv gpv) H1 := hP
                    have hD : va_D A (wz_210 kn tr kns knz knt knv kn_length kns ckns gkns knz cknz gknz knt cknt gknt knv cknv gknv tr tx tr_length tx ctx gtx pf cpf gpf pk cpk gpk pz cpz gpz gl tr gls glz glt glv gl_length gls cgls ggls glz cglz gglz glt cglt gglt fu tr fus fuz fut fuv fu_length fus cfus gfus fuz cfuz gfuz fut cfut gfut pa tr pas paz pat pav pa_length pat cpat gpat h0 pr kn lt h0_localCount pe n86 h0_gives h0_depth h0_loopDepth to bo cs se pr gl fu pa pf sf pk pg pp pz pv n88 n87 pr_scanner_r pr_stepCount pr_open pr_twoSides pr_waiting_r pr_waitingPlaces_r pr_waitingCount pe cpe n84 bo bob n85 bob cbob n83 pg cpg (fun j => (gpg j).map (sg sa)) pp cpp gpp pv cpv gpv) := hD
                    have hP9 := hP.sb (wq := (wz_204 h0 pr kn lt h0_localCount pe n86 h0_gives h0_depth h0_loopDepth to bo cs se pr gl fu pa pf sf pk pg pp pz pv n88 n87 pr_scanner_r pr_stepCount pr_open pr_twoSides pr_waiting_r pr_waitingPlaces_r pr_waitingCount pe cpe n84 bo bob n85 bob cbob n83 kn tr kns knz knt knv kn_length kns ckns gkns knz cknz gknz knt cknt gknt knv cknv gknv tr tx tr_length tx ctx gtx pf cpf gpf pk cpk gpk pg cpg (fun j => (gpg j).map (sg sa)) pp cpp gpp pz cpz gpz pv cpv gpv gl tr gls glz glt glv gl_length gls cgls ggls glz cglz gglz glt cglt gglt fu tr fus fuz fut fuv fu_length fus cfus gfus fuz cfuz gfuz fut cfut gfut pa tr pas paz pat pav pa_length pat cpat gpat)) [20, 21, 22, 23, 24, 0, 1, 2, 3, 4, 5, 6, 7, 8, 25, 26, 9, 27, 10, 11, 12, 13, 14, 15, 16, 17, 18, 19] rfl
                    have hD9 := hD.sb (wq := (wz_204 h0 pr kn lt h0_localCount pe n86 h0_gives h0_depth h0_loopDepth to bo cs se pr gl fu pa pf sf pk pg pp pz pv n88 n87 pr_scanner_r pr_stepCount pr_open pr_twoSides pr_waiting_r pr_waitingPlaces_r pr_waitingCount pe cpe n84 bo bob n85 bob cbob n83 kn tr kns knz knt knv kn_length kns ckns gkns knz cknz gknz knt cknt gknt knv cknv gknv tr tx tr_length tx ctx gtx pf cpf gpf pk cpk gpk pg cpg (fun j => (gpg j).map (sg sa)) pp cpp gpp pz cpz gpz pv cpv gpv gl tr gls glz glt glv gl_length gls cgls ggls glz cglz gglz glt cglt gglt fu tr fus fuz fut fuv fu_length fus cfus gfus fuz cfuz gfuz fut cfut gfut pa tr pas paz pat pav pa_length pat cpat gpat)) [20, 21, 22, 23, 24, 0, 1, 2, 3, 4, 5, 6, 7, 8, 25, 26, 9, 27, 10, 11, 12, 13, 14, 15, 16, 17, 18, 19] (by decide) rfl
                    exact tz_leave rfl hno hlocks (fun t ht hW => ⟨⟨(n83, n84, n85, n86, n87, n88), ⟨⟨bn85, bn86⟩, by rw [ht]; exact hXX.moved hW.alike⟩, va_P.he ht.symm hP9, va_K.moved hW.alike hK, hD9⟩, hS.F ht⟩) hS.2.2
                  obtain ⟨n89, n90, n91, n92, n93, n94⟩ := u
                  try dsimp only at hw
                  obtain ⟨bn91, bn92, xr82⟩ := hw
                  try clear hw
                  obtain ⟨hP1, hK1, hD1⟩ := hB
                  replace hP1 := va_P.he ht hP1
                  obtain ⟨hP, hD⟩ := va_join (wr := [(kn, .inr (5, [.ref tr, .ref kns, .ref knz, .ref knt, .ref knv, .int kn_length])), (kns, .inl (ckns, 50, .inl gkns)), (knz, .inl (cknz, 50, .inl gknz)), (knt, .inl (cknt, 50, .inl gknt)), (knv, .inl (cknv, 50, .inr (.inl gknv))), (tr, .inr (1, [.ref tx, .int tr_length])), (tx, .inl (ctx, 2000, .inl gtx)), (pf, .inl (cpf, 21, .inl gpf)), (pk, .inl (cpk, 4100, .inl gpk)), (pz, .inl (cpz, 4100, .inl gpz)), (gl, .inr (5, [.ref tr, .ref gls, .ref glz, .ref glt, .ref glv, .int gl_length])), (gls, .inl (cgls, 20, .inl ggls)), (glz, .inl (cglz, 20, .inl gglz)), (glt, .inl (cglt, 20, .inl gglt)), (fu, .inr (5, [.ref tr, .ref fus, .ref fuz, .ref fut, .ref fuv, .int fu_length])), (fus, .inl (cfus, 20, .inl gfus)), (fuz, .inl (cfuz, 20, .inl gfuz)), (fut, .inl (cfut, 20, .inl gfut)), (pa, .inr (5, [.ref tr, .ref pas, .ref paz, .ref pat, .ref pav, .int pa_length])), (pat, .inl (cpat, 160, .inl gpat))]) (w1 := (wz_181 h0 pr kn lt h0_localCount pe n92 h0_gives h0_depth h0_loopDepth to bo cs se pr gl fu pa pf sf pk pg pp pz pv n94 n93 pr_scanner_r pr_stepCount pr_open pr_twoSides pr_waiting_r pr_waitingPlaces_r pr_waitingCount pe cpe n90 bo bob n91 bob cbob n89 pg cpg (fun j => (gpg j).map (sg sa)) pp cpp gpp pv cpv gpv)) hP hD [0, 1, 2, 3, 4, 14, 15, 17] [5, 6, 7, 8, 9, 10, 11, 12, 13, 16, 18, 19, 20, 21, 22, 23, 24, 25, 26, 27] rfl rfl (by decide) (by decide) hk1 hFc hP1 hD1
                  clear hPc hDc hKc hFc hz1 hk1 hP1 hK1 hD1
                  rename Heap => H
                  have hP : va_P (dC, dI) cls (wz_210 kn tr kns knz knt knv kn_length kns ckns gkns knz cknz gknz knt cknt gknt knv cknv gknv tr tx tr_length tx ctx gtx pf cpf gpf pk cpk gpk pz cpz gpz gl tr gls glz glt glv gl_length gls cgls ggls glz cglz gglz glt cglt gglt fu tr fus fuz fut fuv fu_length fus cfus gfus fuz cfuz gfuz fut cfut gfut pa tr pas paz pat pav pa_length pat cpat gpat h0 pr kn lt h0_localCount pe n92 h0_gives h0_depth h0_loopDepth to bo cs se pr gl fu pa pf sf pk pg pp pz pv n94 n93 pr_scanner_r pr_stepCount pr_open pr_twoSides pr_waiting_r pr_waitingPlaces_r pr_waitingCount pe cpe n90 bo bob n91 bob cbob n89 pg cpg (fun j => (gpg j).map (sg sa)) pp cpp gpp pv cpv gpv) H := hP
                  have hD : va_D A (wz_210 kn tr kns knz knt knv kn_length kns ckns gkns knz cknz gknz knt cknt gknt knv cknv gknv tr tx tr_length tx ctx gtx pf cpf gpf pk cpk gpk pz cpz gpz gl tr gls glz glt glv gl_length gls cgls ggls glz cglz gglz glt cglt gglt fu tr fus fuz fut fuv fu_length fus cfus gfus fuz cfuz gfuz fut cfut gfut pa tr pas paz pat pav pa_length pat cpat gpat h0 pr kn lt h0_localCount pe n92 h0_gives h0_depth h0_loopDepth to bo cs se pr gl fu pa pf sf pk pg pp pz pv n94 n93 pr_scanner_r pr_stepCount pr_open pr_twoSides pr_waiting_r pr_waitingPlaces_r pr_waitingCount pe cpe n90 bo bob n91 bob cbob n89 pg cpg (fun j => (gpg j).map (sg sa)) pp cpp gpp pv cpv gpv) := hD
                  have hP9 := hP.sb (wq := (wz_204 h0 pr kn lt h0_localCount pe n92 h0_gives h0_depth h0_loopDepth to bo cs se pr gl fu pa pf sf pk pg pp pz pv n94 n93 pr_scanner_r pr_stepCount pr_open pr_twoSides pr_waiting_r pr_waitingPlaces_r pr_waitingCount pe cpe n90 bo bob n91 bob cbob n89 kn tr kns knz knt knv kn_length kns ckns gkns knz cknz gknz knt cknt gknt knv cknv gknv tr tx tr_length tx ctx gtx pf cpf gpf pk cpk gpk pg cpg (fun j => (gpg j).map (sg sa)) pp cpp gpp pz cpz gpz pv cpv gpv gl tr gls glz glt glv gl_length gls cgls ggls glz cglz gglz glt cglt gglt fu tr fus fuz fut fuv fu_length fus cfus gfus fuz cfuz gfuz fut cfut gfut pa tr pas paz pat pav pa_length pat cpat gpat)) [20, 21, 22, 23, 24, 0, 1, 2, 3, 4, 5, 6, 7, 8, 25, 26, 9, 27, 10, 11, 12, 13, 14, 15, 16, 17, 18, 19] rfl
                  have hD9 := hD.sb (wq := (wz_204 h0 pr kn lt h0_localCount pe n92 h0_gives h0_depth h0_loopDepth to bo cs se pr gl fu pa pf sf pk pg pp pz pv n94 n93 pr_scanner_r pr_stepCount pr_open pr_twoSides pr_waiting_r pr_waitingPlaces_r pr_waitingCount pe cpe n90 bo bob n91 bob cbob n89 kn tr kns knz knt knv kn_length kns ckns gkns knz cknz gknz knt cknt gknt knv cknv gknv tr tx tr_length tx ctx gtx pf cpf gpf pk cpk gpk pg cpg (fun j => (gpg j).map (sg sa)) pp cpp gpp pz cpz gpz pv cpv gpv gl tr gls glz glt glv gl_length gls cgls ggls glz cglz gglz glt cglt gglt fu tr fus fuz fut fuv fu_length fus cfus gfus fuz cfuz gfuz fut cfut gfut pa tr pas paz pat pav pa_length pat cpat gpat)) [20, 21, 22, 23, 24, 0, 1, 2, 3, 4, 5, 6, 7, 8, 25, 26, 9, 27, 10, 11, 12, 13, 14, 15, 16, 17, 18, 19] (by decide) rfl
                  exact tz_up (fun _ => rfl) (W.vret hx hb hr (fun t ht hW => ⟨⟨(n89, n90, n91, n92, n93, n94), ⟨rfl, ⟨bn91, bn92, by (try dsimp only); obtain ⟨y1, y2, a9, M9, y3, y4, y5, y6, y7, y8⟩ := xr82; rw [show h0_pendingCount.toInt = (h0_pendingCount.toNatClampNeg : Int) from by (first | (apply Int.le_antisymm <;> omega) | omega)] at y1 y2 y6; rw [y8]; exact cv_own hI.out s9 q212 (by have := i32_clamp (x := n92) (by (first | (apply Int.le_antisymm <;> omega) | omega)); (first | (apply Int.le_antisymm <;> omega) | omega)) y2 y5.1 y5.2 y6 y3.1 y4 y3.2⟩⟩, va_P.he ht.symm hP9, va_K.moved hW.alike hK, hD9⟩, hS.F ht⟩) hS.2.2 d_CO_codeValue_228)
                · have q212 : ka = 2 := hSW.2.2.2.1.2 ka 2 b9 (by decide : 2 < 55) (Option.some.inj c212)
                  refine lv_aload_n hx hb d_CO_codeValue_215 rfl (lv_at hl 1 rfl) ?_
                  refine lv_iload_n hx hb d_CO_codeValue_216 rfl (lv_at hl 2 rfl) ?_
                  have hPc := hP.sb (wq := (wz_176 h0 pr kn lt h0_localCount pe h0_pendingCount h0_gives h0_depth h0_loopDepth to bo cs se pr gl fu pa pf sf pk pg pp pz pv pr_reason pr_place pr_scanner_r pr_stepCount pr_open pr_twoSides pr_waiting_r pr_waitingPlaces_r pr_waitingCount pe cpe gpe bo bob bo_length bob cbob gbob kn tr kns knz knt knv kn_length tr tx tr_length tx ctx gtx pf cpf gpf pp cpp gpp pz cpz gpz pv cpv gpv fu tr fus fuz fut fuv fu_length fus cfus gfus fuz cfuz gfuz fut cfut gfut pa tr pas paz pat pav pa_length pat cpat gpat)) [0, 1, 2, 3, 4, 5, 10, 11, 12, 15, 16, 17, 22, 23, 24, 25, 26, 27] rfl
                  have hDc := hD.sb (wq := (wz_176 h0 pr kn lt h0_localCount pe h0_pendingCount h0_gives h0_depth h0_loopDepth to bo cs se pr gl fu pa pf sf pk pg pp pz pv pr_reason pr_place pr_scanner_r pr_stepCount pr_open pr_twoSides pr_waiting_r pr_waitingPlaces_r pr_waitingCount pe cpe gpe bo bob bo_length bob cbob gbob kn tr kns knz knt knv kn_length tr tx tr_length tx ctx gtx pf cpf gpf pp cpp gpp pz cpz gpz pv cpv gpv fu tr fus fuz fut fuv fu_length fus cfus gfus fuz cfuz gfuz fut cfut gfut pa tr pas paz pat pav pa_length pat cpat gpat)) [0, 1, 2, 3, 4, 5, 10, 11, 12, 15, 16, 17, 22, 23, 24, 25, 26, 27] (by decide) rfl
                  have hKc := hK.sb (tyq := [(cpe, .int), (cbob, .byte), (ctx, .byte), (cpf, .int), (cpp, .int), (cpz, .int), (cpv, .long), (cfus, .int), (cfuz, .int), (cfut, .int), (cpat, .int)]) [0, 1, 6, 7, 10, 11, 12, 16, 17, 18, 19] rfl
                  have hFc := va_free (wc := (wz_176 h0 pr kn lt h0_localCount pe h0_pendingCount h0_gives h0_depth h0_loopDepth to bo cs se pr gl fu pa pf sf pk pg pp pz pv pr_reason pr_place pr_scanner_r pr_stepCount pr_open pr_twoSides pr_waiting_r pr_waitingPlaces_r pr_waitingCount pe cpe gpe bo bob bo_length bob cbob gbob kn tr kns knz knt knv kn_length tr tx tr_length tx ctx gtx pf cpf gpf pp cpp gpp pz cpz gpz pv cpv gpv fu tr fus fuz fut fuv fu_length fus cfus gfus fuz cfuz gfuz fut cfut gfut pa tr pas paz pat pav pa_length pat cpat gpat)) hD hS hA [0, 1, 2, 3, 4, 5, 10, 11, 12, 15, 16, 17, 22, 23, 24, 25, 26, 27] rfl
                  refine tq_callv (tz_runV (As := [.int p0]) (rest := []) ⟨hx, hb, hml, hown, hts⟩ (c_CO_codeCall l hlt dC dI H.size sa h0 pr kn lt pe to bo cs se gl fu pa pf sf pk pg pp pz pv pr_scanner_r pr_waiting_r pr_waitingPlaces_r bob tr kns knz knt knv tx fus fuz fut fuv pas paz pat pav cpe cbob ctx cpf cpp cpz cpv cfus cfuz cfut cpat h0_localCount h0_pendingCount h0_gives h0_depth h0_loopDepth pr_reason pr_place pr_stepCount pr_open pr_twoSides pr_waitingCount gpe bo_length gbob kn_length tr_length gtx gpf gpp gpz gpv fu_length gfus gfuz gfut pa_length gpat (b_h0_pendingCount) (b_bo_length) (b_tr_length) (b_fu_length) (b_pa_length) p0 (by (first | (apply Int.le_antisymm <;> omega) | omega)) (by (first | (apply Int.le_antisymm <;> omega) | omega)) (by (first | (apply Int.le_antisymm <;> omega) | omega)) (hpf) (hpq.out) (by (first | (apply Int.le_antisymm <;> omega) | omega)) (by (first | (apply Int.le_antisymm <;> omega) | omega)) (by (first | (apply Int.le_antisymm <;> omega) | omega))) (cwV 1 hts (gV kM_CO_210 kV_CO_codeCall kS_CO_codeCall kI_CO kC_CO_codeCall) rfl rfl rfl (by decide +kernel) ⟨Nat.le_of_ble_eq_true rfl, Nat.le_of_ble_eq_true rfl⟩) ⟨fun a U g mk z => by obtain ⟨z0, z1, zP, zK, zD, zS⟩ := z; exact ⟨z0, z1, zP, va_K.moved (u := U) (U := U.calling g mk a) (Vm.Alike.refl U.vm) zK, zD, sw.same (u := U) (U := U.calling g mk a) rfl zS⟩, va_recv hKc hPc (ci := 2) (q0 := 0) rfl rfl, fun U hU hW => ⟨rfl, by rw [hU], va_P.he hU.symm hPc, va_K.moved hW.alike hKc, hDc.weaken (fun _ _ _ _ => trivial), hSW.call hS hFc hW hU⟩⟩ rfl rfl hl.1 rfl (lv_room (Nat.le_of_ble_eq_true rfl)) d_CO_codeValue_217 ⟨Nat.le_of_ble_eq_true rfl, Nat.le_of_ble_eq_true rfl⟩) hS (fun q _ h => hFc q h) hFc (fun u t H1 locs ht hvm hw hB hz1 hk1 hS => ?_) (fun xx u t H1 locs ht hvm hw hXX hB hz1 hk1 hS => ?_)
                  rotate_left
                  · skip
                    obtain ⟨n96, n97, n98, n99, n100, n101⟩ := u
                    try dsimp only at hw
                    obtain ⟨bn98, bn99⟩ := hw
                    obtain ⟨hP1, hK1, hD1⟩ := hB
                    replace hP1 := va_P.he ht hP1
                    obtain ⟨hP, hD⟩ := va_join (wr := [(kns, .inl (ckns, 50, .inl gkns)), (knz, .inl (cknz, 50, .inl gknz)), (knt, .inl (cknt, 50, .inl gknt)), (knv, .inl (cknv, 50, .inr (.inl gknv))), (pk, .inl (cpk, 4100, .inl gpk)), (pg, .inl (cpg, 4100, .inr (.inr (.inr (.inr (fun j => (gpg j).map (sg sa))))))), (gl, .inr (5, [.ref tr, .ref gls, .ref glz, .ref glt, .ref glv, .int gl_length])), (gls, .inl (cgls, 20, .inl ggls)), (glz, .inl (cglz, 20, .inl gglz)), (glt, .inl (cglt, 20, .inl gglt))]) (w1 := (wz_176 h0 pr kn lt h0_localCount pe n99 h0_gives h0_depth h0_loopDepth to bo cs se pr gl fu pa pf sf pk pg pp pz pv n101 n100 pr_scanner_r pr_stepCount pr_open pr_twoSides pr_waiting_r pr_waitingPlaces_r pr_waitingCount pe cpe n97 bo bob n98 bob cbob n96 kn tr kns knz knt knv kn_length tr tx tr_length tx ctx gtx pf cpf gpf pp cpp gpp pz cpz gpz pv cpv gpv fu tr fus fuz fut fuv fu_length fus cfus gfus fuz cfuz gfuz fut cfut gfut pa tr pas paz pat pav pa_length pat cpat gpat)) hP hD [0, 1, 2, 3, 4, 5, 10, 11, 12, 15, 16, 17, 22, 23, 24, 25, 26, 27] [6, 7, 8, 9, 13, 14, 18, 19, 20, 21] rfl rfl (by decide) (by decide) hk1 hFc hP1 hD1
                    have hP : va_P (dC, dI) cls (wz_211 kns ckns gkns knz cknz gknz knt cknt gknt knv cknv gknv pk cpk gpk pg cpg (fun j => (gpg j).map (sg sa)) gl tr gls glz glt glv gl_length gls cgls ggls glz cglz gglz glt cglt gglt h0 pr kn lt h0_localCount pe n99 h0_gives h0_depth h0_loopDepth to bo cs se pr gl fu pa pf sf pk pg pp pz pv n101 n100 pr_scanner_r pr_stepCount pr_open pr_twoSides pr_waiting_r pr_waitingPlaces_r pr_waitingCount pe cpe n97 bo bob n98 bob cbob n96 kn tr kns knz knt knv kn_length tr tx tr_length tx ctx gtx pf cpf gpf pp cpp gpp pz cpz gpz pv cpv gpv fu tr fus fuz fut fuv fu_length fus cfus gfus fuz cfuz gfuz fut cfut gfut pa tr pas paz pat pav pa_length pat cpat gpat) H1 := hP
                    have hD : va_D A (wz_211 kns ckns gkns knz cknz gknz knt cknt gknt knv cknv gknv pk cpk gpk pg cpg (fun j => (gpg j).map (sg sa)) gl tr gls glz glt glv gl_length gls cgls ggls glz cglz gglz glt cglt gglt h0 pr kn lt h0_localCount pe n99 h0_gives h0_depth h0_loopDepth to bo cs se pr gl fu pa pf sf pk pg pp pz pv n101 n100 pr_scanner_r pr_stepCount pr_open pr_twoSides pr_waiting_r pr_waitingPlaces_r pr_waitingCount pe cpe n97 bo bob n98 bob cbob n96 kn tr kns knz knt knv kn_length tr tx tr_length tx ctx gtx pf cpf gpf pp cpp gpp pz cpz gpz pv cpv gpv fu tr fus fuz fut fuv fu_length fus cfus gfus fuz cfuz gfuz fut cfut gfut pa tr pas paz pat pav pa_length pat cpat gpat) := hD
                    have hP9 := hP.sb (wq := (wz_204 h0 pr kn lt h0_localCount pe n99 h0_gives h0_depth h0_loopDepth to bo cs se pr gl fu pa pf sf pk pg pp pz pv n101 n100 pr_scanner_r pr_stepCount pr_open pr_twoSides pr_waiting_r pr_waitingPlaces_r pr_waitingCount pe cpe n97 bo bob n98 bob cbob n96 kn tr kns knz knt knv kn_length kns ckns gkns knz cknz gknz knt cknt gknt knv cknv gknv tr tx tr_length tx ctx gtx pf cpf gpf pk cpk gpk pg cpg (fun j => (gpg j).map (sg sa)) pp cpp gpp pz cpz gpz pv cpv gpv gl tr gls glz glt glv gl_length gls cgls ggls glz cglz gglz glt cglt gglt fu tr fus fuz fut fuv fu_length fus cfus gfus fuz cfuz gfuz fut cfut gfut pa tr pas paz pat pav pa_length pat cpat gpat)) [10, 11, 12, 13, 14, 15, 0, 1, 2, 3, 16, 17, 18, 4, 5, 19, 20, 21, 6, 7, 8, 9, 22, 23, 24, 25, 26, 27] rfl
                    have hD9 := hD.sb (wq := (wz_204 h0 pr kn lt h0_localCount pe n99 h0_gives h0_depth h0_loopDepth to bo cs se pr gl fu pa pf sf pk pg pp pz pv n101 n100 pr_scanner_r pr_stepCount pr_open pr_twoSides pr_waiting_r pr_waitingPlaces_r pr_waitingCount pe cpe n97 bo bob n98 bob cbob n96 kn tr kns knz knt knv kn_length kns ckns gkns knz cknz gknz knt cknt gknt knv cknv gknv tr tx tr_length tx ctx gtx pf cpf gpf pk cpk gpk pg cpg (fun j => (gpg j).map (sg sa)) pp cpp gpp pz cpz gpz pv cpv gpv gl tr gls glz glt glv gl_length gls cgls ggls glz cglz gglz glt cglt gglt fu tr fus fuz fut fuv fu_length fus cfus gfus fuz cfuz gfuz fut cfut gfut pa tr pas paz pat pav pa_length pat cpat gpat)) [10, 11, 12, 13, 14, 15, 0, 1, 2, 3, 16, 17, 18, 4, 5, 19, 20, 21, 6, 7, 8, 9, 22, 23, 24, 25, 26, 27] (by decide) rfl
                    exact tz_leave rfl hno hlocks (fun t ht hW => ⟨⟨(n96, n97, n98, n99, n100, n101), ⟨⟨bn98, bn99⟩, by rw [ht]; exact hXX.moved hW.alike⟩, va_P.he ht.symm hP9, va_K.moved hW.alike hK, hD9⟩, hS.F ht⟩) hS.2.2
                  obtain ⟨n102, n103, n104, n105, n106, n107⟩ := u
                  try dsimp only at hw
                  obtain ⟨bn104, bn105, xr95⟩ := hw
                  try clear hw
                  obtain ⟨hP1, hK1, hD1⟩ := hB
                  replace hP1 := va_P.he ht hP1
                  obtain ⟨hP, hD⟩ := va_join (wr := [(kns, .inl (ckns, 50, .inl gkns)), (knz, .inl (cknz, 50, .inl gknz)), (knt, .inl (cknt, 50, .inl gknt)), (knv, .inl (cknv, 50, .inr (.inl gknv))), (pk, .inl (cpk, 4100, .inl gpk)), (pg, .inl (cpg, 4100, .inr (.inr (.inr (.inr (fun j => (gpg j).map (sg sa))))))), (gl, .inr (5, [.ref tr, .ref gls, .ref glz, .ref glt, .ref glv, .int gl_length])), (gls, .inl (cgls, 20, .inl ggls)), (glz, .inl (cglz, 20, .inl gglz)), (glt, .inl (cglt, 20, .inl gglt))]) (w1 := (wz_176 h0 pr kn lt h0_localCount pe n105 h0_gives h0_depth h0_loopDepth to bo cs se pr gl fu pa pf sf pk pg pp pz pv n107 n106 pr_scanner_r pr_stepCount pr_open pr_twoSides pr_waiting_r pr_waitingPlaces_r pr_waitingCount pe cpe n103 bo bob n104 bob cbob n102 kn tr kns knz knt knv kn_length tr tx tr_length tx ctx gtx pf cpf gpf pp cpp gpp pz cpz gpz pv cpv gpv fu tr fus fuz fut fuv fu_length fus cfus gfus fuz cfuz gfuz fut cfut gfut pa tr pas paz pat pav pa_length pat cpat gpat)) hP hD [0, 1, 2, 3, 4, 5, 10, 11, 12, 15, 16, 17, 22, 23, 24, 25, 26, 27] [6, 7, 8, 9, 13, 14, 18, 19, 20, 21] rfl rfl (by decide) (by decide) hk1 hFc hP1 hD1
                  clear hPc hDc hKc hFc hz1 hk1 hP1 hK1 hD1
                  rename Heap => H
                  have hP : va_P (dC, dI) cls (wz_211 kns ckns gkns knz cknz gknz knt cknt gknt knv cknv gknv pk cpk gpk pg cpg (fun j => (gpg j).map (sg sa)) gl tr gls glz glt glv gl_length gls cgls ggls glz cglz gglz glt cglt gglt h0 pr kn lt h0_localCount pe n105 h0_gives h0_depth h0_loopDepth to bo cs se pr gl fu pa pf sf pk pg pp pz pv n107 n106 pr_scanner_r pr_stepCount pr_open pr_twoSides pr_waiting_r pr_waitingPlaces_r pr_waitingCount pe cpe n103 bo bob n104 bob cbob n102 kn tr kns knz knt knv kn_length tr tx tr_length tx ctx gtx pf cpf gpf pp cpp gpp pz cpz gpz pv cpv gpv fu tr fus fuz fut fuv fu_length fus cfus gfus fuz cfuz gfuz fut cfut gfut pa tr pas paz pat pav pa_length pat cpat gpat) H := hP
                  have hD : va_D A (wz_211 kns ckns gkns knz cknz gknz knt cknt gknt knv cknv gknv pk cpk gpk pg cpg (fun j => (gpg j).map (sg sa)) gl tr gls glz glt glv gl_length gls cgls ggls glz cglz gglz glt cglt gglt h0 pr kn lt h0_localCount pe n105 h0_gives h0_depth h0_loopDepth to bo cs se pr gl fu pa pf sf pk pg pp pz pv n107 n106 pr_scanner_r pr_stepCount pr_open pr_twoSides pr_waiting_r pr_waitingPlaces_r pr_waitingCount pe cpe n103 bo bob n104 bob cbob n102 kn tr kns knz knt knv kn_length tr tx tr_length tx ctx gtx pf cpf gpf pp cpp gpp pz cpz gpz pv cpv gpv fu tr fus fuz fut fuv fu_length fus cfus gfus fuz cfuz gfuz fut cfut gfut pa tr pas paz pat pav pa_length pat cpat gpat) := hD
                  refine lv_goto (tgt := 228) hx hb d_CO_codeValue_220 (by decide) ?_
                  have hP9 := hP.sb (wq := (wz_204 h0 pr kn lt h0_localCount pe n105 h0_gives h0_depth h0_loopDepth to bo cs se pr gl fu pa pf sf pk pg pp pz pv n107 n106 pr_scanner_r pr_stepCount pr_open pr_twoSides pr_waiting_r pr_waitingPlaces_r pr_waitingCount pe cpe n103 bo bob n104 bob cbob n102 kn tr kns knz knt knv kn_length kns ckns gkns knz cknz gknz knt cknt gknt knv cknv gknv tr tx tr_length tx ctx gtx pf cpf gpf pk cpk gpk pg cpg (fun j => (gpg j).map (sg sa)) pp cpp gpp pz cpz gpz pv cpv gpv gl tr gls glz glt glv gl_length gls cgls ggls glz cglz gglz glt cglt gglt fu tr fus fuz fut fuv fu_length fus cfus gfus fuz cfuz gfuz fut cfut gfut pa tr pas paz pat pav pa_length pat cpat gpat)) [10, 11, 12, 13, 14, 15, 0, 1, 2, 3, 16, 17, 18, 4, 5, 19, 20, 21, 6, 7, 8, 9, 22, 23, 24, 25, 26, 27] rfl
                  have hD9 := hD.sb (wq := (wz_204 h0 pr kn lt h0_localCount pe n105 h0_gives h0_depth h0_loopDepth to bo cs se pr gl fu pa pf sf pk pg pp pz pv n107 n106 pr_scanner_r pr_stepCount pr_open pr_twoSides pr_waiting_r pr_waitingPlaces_r pr_waitingCount pe cpe n103 bo bob n104 bob cbob n102 kn tr kns knz knt knv kn_length kns ckns gkns knz cknz gknz knt cknt gknt knv cknv gknv tr tx tr_length tx ctx gtx pf cpf gpf pk cpk gpk pg cpg (fun j => (gpg j).map (sg sa)) pp cpp gpp pz cpz gpz pv cpv gpv gl tr gls glz glt glv gl_length gls cgls ggls glz cglz gglz glt cglt gglt fu tr fus fuz fut fuv fu_length fus cfus gfus fuz cfuz gfuz fut cfut gfut pa tr pas paz pat pav pa_length pat cpat gpat)) [10, 11, 12, 13, 14, 15, 0, 1, 2, 3, 16, 17, 18, 4, 5, 19, 20, 21, 6, 7, 8, 9, 22, 23, 24, 25, 26, 27] (by decide) rfl
                  exact tz_up (fun _ => rfl) (W.vret hx hb hr (fun t ht hW => ⟨⟨(n102, n103, n104, n105, n106, n107), ⟨rfl, ⟨bn104, bn105, by (try dsimp only); obtain ⟨y1, y2, f9, y3, y4, y5, y6, y7⟩ := xr95; rw [show h0_pendingCount.toInt = (h0_pendingCount.toNatClampNeg : Int) from by (first | (apply Int.le_antisymm <;> omega) | omega)] at y1 y2 y5; rw [y7]; exact cv_call (f := f9) hI.out s9 q212 (by have := i32_clamp (x := n105) (by (first | (apply Int.le_antisymm <;> omega) | omega)); (first | (apply Int.le_antisymm <;> omega) | omega)) y2 y3 (by (first | (apply Int.le_antisymm <;> omega) | omega)) y4 rfl (hfq.out f9 y3) y5 rfl⟩⟩, va_P.he ht.symm hP9, va_K.moved hW.alike hK, hD9⟩, hS.F ht⟩) hS.2.2 d_CO_codeValue_228)
end q_76
section q_77
/-! Coder: a function's code is kept: runs of locals -/
def rb : List (Nat × Nat) → List Nat
  | [] => []
  | r :: R => r.1 :: r.2 :: rb R
theorem rb_app {a b : List (Nat × Nat)} : rb (a ++ b) = rb a ++ rb b := by
  induction a with
  | nil => rfl
  | cons r a ih =>
    show r.1 :: r.2 :: rb (a ++ b) = r.1 :: r.2 :: (rb a ++ rb b)
    rw [ih]
theorem rb_len {R : List (Nat × Nat)} : (rb R).length = 2 * R.length := by
  induction R with
  | nil => rfl
  | cons r R ih =>
    show (rb R).length + 1 + 1 = 2 * (R.length + 1)
    (first | (apply Int.le_antisymm <;> omega) | omega)
def rsum : List (Nat × Nat) → Nat
  | [] => 0
  | r :: R => r.1 + rsum R
theorem rsum_app {a b : List (Nat × Nat)} : rsum (a ++ b) = rsum a + rsum b := by
  induction a with
  | nil => exact (Nat.zero_add _).symm
  | cons r a ih =>
    show r.1 + rsum (a ++ b) = r.1 + rsum a + rsum b
    (first | (apply Int.le_antisymm <;> omega) | omega)
def rok (R : List (Nat × Nat)) : Prop := ∀ r ∈ R, 1 ≤ r.1 ∧ r.1 ≤ 50 ∧ (r.2 = 127 ∨ r.2 = 126)
/-- how many runs begin at p, p + 1, .., before p + k -/
def rst (lt : Nat → Int32) (p : Nat) : Nat → Nat
  | 0 => 0
  | k + 1 => rst lt p k + if k = 0 ∨ lt (p + k) ≠ lt (p + k - 1) then 1 else 0
theorem rst_le {lt : Nat → Int32} {p : Nat} : ∀ k, rst lt p k ≤ k := by
  intro k
  induction k with
  | zero => exact Nat.le_refl _
  | succ k ih =>
    show rst lt p k + _ ≤ k + 1
    split <;> (first | (apply Int.le_antisymm <;> omega) | omega)
/-- so far k locals are seen: R of them in whole runs, the last n in a run that goes on -/
def rI (lt : Nat → Int32) (p k n m : Nat) (R : List (Nat × Nat)) : Prop :=
  rok R ∧ rsum R + n = k ∧ R.length + (if n = 0 then 0 else 1) = rst lt p k ∧ (k < m → (n = 0 ↔ (k = 0 ∨ lt (p + k) ≠ lt (p + k - 1)))) ∧ (m ≤ k → n = 0)
theorem rI_0 {lt : Nat → Int32} {p m : Nat} : rI lt p 0 0 m [] := ⟨fun r h => (by cases h), rfl, rfl, fun _ => ⟨fun _ => Or.inl rfl, fun _ => rfl⟩, fun _ => rfl⟩
theorem rI_on {lt : Nat → Int32} {p k n m : Nat} {R : List (Nat × Nat)} (h : rI lt p k n m R) (hk : k + 1 < m) (he : lt (p + (k + 1)) = lt (p + k)) : rI lt p (k + 1) (n + 1) m R := by
  obtain ⟨a1, a2, a3, a4, a5⟩ := h
  have q := a4 (by (first | (apply Int.le_antisymm <;> omega) | omega))
  refine ⟨a1, by (first | (apply Int.le_antisymm <;> omega) | omega), ?_, fun _ => ⟨fun z => by (first | (apply Int.le_antisymm <;> omega) | omega), fun z => ?_⟩, fun z => by (first | (apply Int.le_antisymm <;> omega) | omega)⟩
  · rw [if_neg (by (first | (apply Int.le_antisymm <;> omega) | omega))]
    show R.length + 1 = rst lt p k + _
    by_cases z : n = 0
    · rw [if_pos z] at a3
      rw [if_pos (q.mp z)]
      (first | (apply Int.le_antisymm <;> omega) | omega)
    · rw [if_neg z] at a3
      rw [if_neg (fun w => z (q.mpr w))]
      (first | (apply Int.le_antisymm <;> omega) | omega)
  · rcases z with z | z
    · (first | (apply Int.le_antisymm <;> omega) | omega)
    · exact absurd he z
theorem rI_end {lt : Nat → Int32} {p k n m t : Nat} {R : List (Nat × Nat)} (h : rI lt p k n m R) (hk : k < m) (hm : m ≤ 50) (he : k + 1 = m ∨ lt (p + (k + 1)) ≠ lt (p + k)) (ht : t = 127 ∨ t = 126) : rI lt p (k + 1) 0 m (R ++ [(n + 1, t)]) := by
  obtain ⟨a1, a2, a3, a4, a5⟩ := h
  have q := a4 hk
  refine ⟨fun r hr => ?_, ?_, ?_, fun z => ⟨fun _ => ?_, fun _ => rfl⟩, fun _ => rfl⟩
  · rcases List.mem_append.mp hr with w | w
    · exact a1 r w
    · rw [List.mem_singleton.mp w]
      exact ⟨by dsimp only; (first | (apply Int.le_antisymm <;> omega) | omega), by dsimp only; (first | (apply Int.le_antisymm <;> omega) | omega), ht⟩
  · rw [rsum_app]
    show rsum R + (n + 1 + 0) + 0 = k + 1
    (first | (apply Int.le_antisymm <;> omega) | omega)
  · rw [List.length_append, List.length_singleton, if_pos rfl]
    show R.length + 1 + 0 = rst lt p k + _
    by_cases z : n = 0
    · rw [if_pos z] at a3
      rw [if_pos (q.mp z)]
      (first | (apply Int.le_antisymm <;> omega) | omega)
    · rw [if_neg z] at a3
      rw [if_neg (fun w => z (q.mpr w))]
      (first | (apply Int.le_antisymm <;> omega) | omega)
  · rcases he with w | w
    · (first | (apply Int.le_antisymm <;> omega) | omega)
    · exact Or.inr w
theorem leb_2 {k v : Nat} (h : v < 16384) : (leb (k + 1) v).length ≤ 2 := by
  by_cases q : v / 128 = 0
  · rw [leb_end q, List.length_singleton]
    (first | (apply Int.le_antisymm <;> omega) | omega)
  · rw [leb_go q, List.length_cons, leb_end (by (first | (apply Int.le_antisymm <;> omega) | omega)), List.length_singleton]
    (first | (apply Int.le_antisymm <;> omega) | omega)
abbrev b_CO_keepCode : ByteArray := prog_4_method_20_code
def y_CO_keepCode : MethodName := ⟨R_CO, "keepCode", "(I)V"⟩
abbrev w_CO_keepCode : List Cond := .code y_CO_keepCode b_CO_keepCode 5 none :: lw_g
theorem kC_CO_keepCode : Cond.code y_CO_keepCode b_CO_keepCode 5 none ∈ lw_g := in_c6 16 rfl rfl
theorem d_CO_keepCode_0 : decode b_CO_keepCode 0 = .ok (.iconst 0, 1) := bz_c3 (by decide +kernel)
theorem d_CO_keepCode_1 : decode b_CO_keepCode 1 = .ok (.istore_n 2, 1) := bz_c61 (by decide +kernel)
theorem d_CO_keepCode_2 : decode b_CO_keepCode 2 = .ok (.iload_n 1, 1) := bz_c27 (by decide +kernel)
theorem d_CO_keepCode_3 : decode b_CO_keepCode 3 = .ok (.istore_n 3, 1) := bz_c62 (by decide +kernel)
theorem d_CO_keepCode_4 : decode b_CO_keepCode 4 = .ok (.iload_n 3, 1) := bz_c29 (by decide +kernel)
theorem d_CO_keepCode_5 : decode b_CO_keepCode 5 = .ok (.aload_n 0, 1) := bz_c42 (by decide +kernel)
theorem d_CO_keepCode_6 : decode b_CO_keepCode 6 = .ok (.getfield 109, 3) := bz_c180 (by decide +kernel)
theorem d_CO_keepCode_9 : decode b_CO_keepCode 9 = .ok (.if_icmp .ge 34, 3) := bz_c162 (by decide +kernel)
theorem d_CO_keepCode_12 : decode b_CO_keepCode 12 = .ok (.iload_n 3, 1) := bz_c29 (by decide +kernel)
theorem d_CO_keepCode_13 : decode b_CO_keepCode 13 = .ok (.iload_n 1, 1) := bz_c27 (by decide +kernel)
theorem d_CO_keepCode_14 : decode b_CO_keepCode 14 = .ok (.if_icmp .eq 20, 3) := bz_c159 (by decide +kernel)
theorem d_CO_keepCode_17 : decode b_CO_keepCode 17 = .ok (.aload_n 0, 1) := bz_c42 (by decide +kernel)
theorem d_CO_keepCode_18 : decode b_CO_keepCode 18 = .ok (.getfield 9, 3) := bz_c180 (by decide +kernel)
theorem d_CO_keepCode_21 : decode b_CO_keepCode 21 = .ok (.iload_n 3, 1) := bz_c29 (by decide +kernel)
theorem d_CO_keepCode_22 : decode b_CO_keepCode 22 = .ok (.iaload, 1) := bz_c46 (by decide +kernel)
theorem d_CO_keepCode_23 : decode b_CO_keepCode 23 = .ok (.aload_n 0, 1) := bz_c42 (by decide +kernel)
theorem d_CO_keepCode_24 : decode b_CO_keepCode 24 = .ok (.getfield 9, 3) := bz_c180 (by decide +kernel)
theorem d_CO_keepCode_27 : decode b_CO_keepCode 27 = .ok (.iload_n 3, 1) := bz_c29 (by decide +kernel)
theorem d_CO_keepCode_28 : decode b_CO_keepCode 28 = .ok (.iconst 1, 1) := bz_c4 (by decide +kernel)
theorem d_CO_keepCode_29 : decode b_CO_keepCode 29 = .ok (.isub, 1) := bz_c100 (by decide +kernel)
theorem d_CO_keepCode_30 : decode b_CO_keepCode 30 = .ok (.iaload, 1) := bz_c46 (by decide +kernel)
theorem d_CO_keepCode_31 : decode b_CO_keepCode 31 = .ok (.if_icmp .eq 6, 3) := bz_c159 (by decide +kernel)
theorem d_CO_keepCode_34 : decode b_CO_keepCode 34 = .ok (.iinc 2 1, 3) := by decide +kernel
theorem d_CO_keepCode_37 : decode b_CO_keepCode 37 = .ok (.iinc 3 1, 3) := by decide +kernel
theorem d_CO_keepCode_40 : decode b_CO_keepCode 40 = .ok (.goto (-36), 3) := bz_c167 (by decide +kernel)
theorem d_CO_keepCode_43 : decode b_CO_keepCode 43 = .ok (.aload_n 0, 1) := bz_c42 (by decide +kernel)
theorem d_CO_keepCode_44 : decode b_CO_keepCode 44 = .ok (.getfield 33, 3) := bz_c180 (by decide +kernel)
theorem d_CO_keepCode_47 : decode b_CO_keepCode 47 = .ok (.iconst 0, 1) := bz_c3 (by decide +kernel)
theorem d_CO_keepCode_48 : decode b_CO_keepCode 48 = .ok (.putfield 64, 3) := bz_c181 (by decide +kernel)
theorem d_CO_keepCode_51 : decode b_CO_keepCode 51 = .ok (.aload_n 0, 1) := bz_c42 (by decide +kernel)
theorem d_CO_keepCode_52 : decode b_CO_keepCode 52 = .ok (.getfield 33, 3) := bz_c180 (by decide +kernel)
theorem d_CO_keepCode_55 : decode b_CO_keepCode 55 = .ok (.iload_n 2, 1) := bz_c28 (by decide +kernel)
theorem d_CO_keepCode_56 : decode b_CO_keepCode 56 = .ok (.invokevirtual 218, 3) := bz_c182 (by decide +kernel)
theorem d_CO_keepCode_59 : decode b_CO_keepCode 59 = .ok (.iconst 0, 1) := bz_c3 (by decide +kernel)
theorem d_CO_keepCode_60 : decode b_CO_keepCode 60 = .ok (.istore_n 3, 1) := bz_c62 (by decide +kernel)
theorem d_CO_keepCode_61 : decode b_CO_keepCode 61 = .ok (.iload_n 1, 1) := bz_c27 (by decide +kernel)
theorem d_CO_keepCode_62 : decode b_CO_keepCode 62 = .ok (.istore 4, 2) := bz_c54 (by decide +kernel)
theorem d_CO_keepCode_64 : decode b_CO_keepCode 64 = .ok (.iload 4, 2) := bz_c21 (by decide +kernel)
theorem d_CO_keepCode_66 : decode b_CO_keepCode 66 = .ok (.aload_n 0, 1) := bz_c42 (by decide +kernel)
theorem d_CO_keepCode_67 : decode b_CO_keepCode 67 = .ok (.getfield 109, 3) := bz_c180 (by decide +kernel)
theorem d_CO_keepCode_70 : decode b_CO_keepCode 70 = .ok (.if_icmp .ge 66, 3) := bz_c162 (by decide +kernel)
theorem d_CO_keepCode_73 : decode b_CO_keepCode 73 = .ok (.iinc 3 1, 3) := by decide +kernel
theorem d_CO_keepCode_76 : decode b_CO_keepCode 76 = .ok (.iload 4, 2) := bz_c21 (by decide +kernel)
theorem d_CO_keepCode_78 : decode b_CO_keepCode 78 = .ok (.iconst 1, 1) := bz_c4 (by decide +kernel)
theorem d_CO_keepCode_79 : decode b_CO_keepCode 79 = .ok (.iadd, 1) := bz_c96 (by decide +kernel)
theorem d_CO_keepCode_80 : decode b_CO_keepCode 80 = .ok (.aload_n 0, 1) := bz_c42 (by decide +kernel)
theorem d_CO_keepCode_81 : decode b_CO_keepCode 81 = .ok (.getfield 109, 3) := bz_c180 (by decide +kernel)
theorem d_CO_keepCode_84 : decode b_CO_keepCode 84 = .ok (.if_icmp .eq 22, 3) := bz_c159 (by decide +kernel)
theorem d_CO_keepCode_87 : decode b_CO_keepCode 87 = .ok (.aload_n 0, 1) := bz_c42 (by decide +kernel)
theorem d_CO_keepCode_88 : decode b_CO_keepCode 88 = .ok (.getfield 9, 3) := bz_c180 (by decide +kernel)
theorem d_CO_keepCode_91 : decode b_CO_keepCode 91 = .ok (.iload 4, 2) := bz_c21 (by decide +kernel)
theorem d_CO_keepCode_93 : decode b_CO_keepCode 93 = .ok (.iconst 1, 1) := bz_c4 (by decide +kernel)
theorem d_CO_keepCode_94 : decode b_CO_keepCode 94 = .ok (.iadd, 1) := bz_c96 (by decide +kernel)
theorem d_CO_keepCode_95 : decode b_CO_keepCode 95 = .ok (.iaload, 1) := bz_c46 (by decide +kernel)
theorem d_CO_keepCode_96 : decode b_CO_keepCode 96 = .ok (.aload_n 0, 1) := bz_c42 (by decide +kernel)
theorem d_CO_keepCode_97 : decode b_CO_keepCode 97 = .ok (.getfield 9, 3) := bz_c180 (by decide +kernel)
theorem d_CO_keepCode_100 : decode b_CO_keepCode 100 = .ok (.iload 4, 2) := bz_c21 (by decide +kernel)
theorem d_CO_keepCode_102 : decode b_CO_keepCode 102 = .ok (.iaload, 1) := bz_c46 (by decide +kernel)
theorem d_CO_keepCode_103 : decode b_CO_keepCode 103 = .ok (.if_icmp .eq 27, 3) := bz_c159 (by decide +kernel)
theorem d_CO_keepCode_106 : decode b_CO_keepCode 106 = .ok (.aload_n 0, 1) := bz_c42 (by decide +kernel)
theorem d_CO_keepCode_107 : decode b_CO_keepCode 107 = .ok (.getfield 33, 3) := bz_c180 (by decide +kernel)
theorem d_CO_keepCode_110 : decode b_CO_keepCode 110 = .ok (.iload_n 3, 1) := bz_c29 (by decide +kernel)
theorem d_CO_keepCode_111 : decode b_CO_keepCode 111 = .ok (.invokevirtual 218, 3) := bz_c182 (by decide +kernel)
theorem d_CO_keepCode_114 : decode b_CO_keepCode 114 = .ok (.aload_n 0, 1) := bz_c42 (by decide +kernel)
theorem d_CO_keepCode_115 : decode b_CO_keepCode 115 = .ok (.getfield 33, 3) := bz_c180 (by decide +kernel)
theorem d_CO_keepCode_118 : decode b_CO_keepCode 118 = .ok (.aload_n 0, 1) := bz_c42 (by decide +kernel)
theorem d_CO_keepCode_119 : decode b_CO_keepCode 119 = .ok (.getfield 9, 3) := bz_c180 (by decide +kernel)
theorem d_CO_keepCode_122 : decode b_CO_keepCode 122 = .ok (.iload 4, 2) := bz_c21 (by decide +kernel)
theorem d_CO_keepCode_124 : decode b_CO_keepCode 124 = .ok (.iaload, 1) := bz_c46 (by decide +kernel)
theorem d_CO_keepCode_125 : decode b_CO_keepCode 125 = .ok (.invokevirtual 76, 3) := bz_c182 (by decide +kernel)
theorem d_CO_keepCode_128 : decode b_CO_keepCode 128 = .ok (.iconst 0, 1) := bz_c3 (by decide +kernel)
theorem d_CO_keepCode_129 : decode b_CO_keepCode 129 = .ok (.istore_n 3, 1) := bz_c62 (by decide +kernel)
theorem d_CO_keepCode_130 : decode b_CO_keepCode 130 = .ok (.iinc 4 1, 3) := by decide +kernel
theorem d_CO_keepCode_133 : decode b_CO_keepCode 133 = .ok (.goto (-69), 3) := bz_c167 (by decide +kernel)
theorem d_CO_keepCode_136 : decode b_CO_keepCode 136 = .ok (.aload_n 0, 1) := bz_c42 (by decide +kernel)
theorem d_CO_keepCode_137 : decode b_CO_keepCode 137 = .ok (.getfield 30, 3) := bz_c180 (by decide +kernel)
theorem d_CO_keepCode_140 : decode b_CO_keepCode 140 = .ok (.aload_n 0, 1) := bz_c42 (by decide +kernel)
theorem d_CO_keepCode_141 : decode b_CO_keepCode 141 = .ok (.getfield 33, 3) := bz_c180 (by decide +kernel)
theorem d_CO_keepCode_144 : decode b_CO_keepCode 144 = .ok (.getfield 64, 3) := bz_c180 (by decide +kernel)
theorem d_CO_keepCode_147 : decode b_CO_keepCode 147 = .ok (.aload_n 0, 1) := bz_c42 (by decide +kernel)
theorem d_CO_keepCode_148 : decode b_CO_keepCode 148 = .ok (.getfield 26, 3) := bz_c180 (by decide +kernel)
theorem d_CO_keepCode_151 : decode b_CO_keepCode 151 = .ok (.getfield 64, 3) := bz_c180 (by decide +kernel)
theorem d_CO_keepCode_154 : decode b_CO_keepCode 154 = .ok (.iadd, 1) := bz_c96 (by decide +kernel)
theorem d_CO_keepCode_155 : decode b_CO_keepCode 155 = .ok (.invokevirtual 218, 3) := bz_c182 (by decide +kernel)
theorem d_CO_keepCode_158 : decode b_CO_keepCode 158 = .ok (.aload_n 0, 1) := bz_c42 (by decide +kernel)
theorem d_CO_keepCode_159 : decode b_CO_keepCode 159 = .ok (.getfield 30, 3) := bz_c180 (by decide +kernel)
theorem d_CO_keepCode_162 : decode b_CO_keepCode 162 = .ok (.aload_n 0, 1) := bz_c42 (by decide +kernel)
theorem d_CO_keepCode_163 : decode b_CO_keepCode 163 = .ok (.getfield 33, 3) := bz_c180 (by decide +kernel)
theorem d_CO_keepCode_166 : decode b_CO_keepCode 166 = .ok (.iconst 0, 1) := bz_c3 (by decide +kernel)
theorem d_CO_keepCode_167 : decode b_CO_keepCode 167 = .ok (.aload_n 0, 1) := bz_c42 (by decide +kernel)
theorem d_CO_keepCode_168 : decode b_CO_keepCode 168 = .ok (.getfield 33, 3) := bz_c180 (by decide +kernel)
theorem d_CO_keepCode_171 : decode b_CO_keepCode 171 = .ok (.getfield 64, 3) := bz_c180 (by decide +kernel)
theorem d_CO_keepCode_174 : decode b_CO_keepCode 174 = .ok (.invokevirtual 288, 3) := bz_c182 (by decide +kernel)
theorem d_CO_keepCode_177 : decode b_CO_keepCode 177 = .ok (.aload_n 0, 1) := bz_c42 (by decide +kernel)
theorem d_CO_keepCode_178 : decode b_CO_keepCode 178 = .ok (.getfield 30, 3) := bz_c180 (by decide +kernel)
theorem d_CO_keepCode_181 : decode b_CO_keepCode 181 = .ok (.aload_n 0, 1) := bz_c42 (by decide +kernel)
theorem d_CO_keepCode_182 : decode b_CO_keepCode 182 = .ok (.getfield 26, 3) := bz_c180 (by decide +kernel)
theorem d_CO_keepCode_185 : decode b_CO_keepCode 185 = .ok (.iconst 0, 1) := bz_c3 (by decide +kernel)
theorem d_CO_keepCode_186 : decode b_CO_keepCode 186 = .ok (.aload_n 0, 1) := bz_c42 (by decide +kernel)
theorem d_CO_keepCode_187 : decode b_CO_keepCode 187 = .ok (.getfield 26, 3) := bz_c180 (by decide +kernel)
theorem d_CO_keepCode_190 : decode b_CO_keepCode 190 = .ok (.getfield 64, 3) := bz_c180 (by decide +kernel)
theorem d_CO_keepCode_193 : decode b_CO_keepCode 193 = .ok (.invokevirtual 288, 3) := bz_c182 (by decide +kernel)
theorem d_CO_keepCode_196 : decode b_CO_keepCode 196 = .ok (.return_, 1) := bz_c177 (by decide +kernel)
theorem kM_CO_288 : Cond.methodLink R_CO 288 y_BR_putPart ∈ lw_g := in_c6 17 rfl rfl
theorem kF_CO_33 : Cond.fieldLink R_CO 33 "WaferForge$Coder" "section" "LWaferForge$ByteRow;" ∈ lw_g := in_c2 192 rfl rfl
theorem kF_CO_30 : Cond.fieldLink R_CO 30 "WaferForge$Coder" "codes" "LWaferForge$ByteRow;" ∈ lw_g := in_c2 191 rfl rfl
abbrev at_CO_keepCode (dC : Nat → ClassId) (dI : Nat → Nat → Nat) (h0 pr kn lt pe to bo cs se bob csb seb : Nat) (clt cbob ccsb cseb : ClassId) (h0_localCount : Int32) (h0_pendingCount : Int32) (h0_gives : Int32) (h0_depth : Int32) (h0_loopDepth : Int32) (wlt : Nat → Int32) (bo_length : Int32) (gbob : Nat → Int32) (A : Nat → Prop) (u : (Nat → Int32) × (Nat → Int32) × Int32 × Int32) (t : State) : Prop := match u with | (gcsb, gseb, cs_length, se_length) => va_P (dC, dI) cls (wz_212 h0 pr kn lt h0_localCount pe h0_pendingCount h0_gives h0_depth h0_loopDepth to bo cs se lt clt wlt bo bob bo_length bob cbob gbob cs csb cs_length csb ccsb gcsb se seb se_length seb cseb gseb) t.heap ∧ va_K (dC, dI) cls [(clt, .int), (cbob, .byte), (ccsb, .byte), (cseb, .byte)] t ∧ va_D A (wz_212 h0 pr kn lt h0_localCount pe h0_pendingCount h0_gives h0_depth h0_loopDepth to bo cs se lt clt wlt bo bob bo_length bob cbob gbob cs csb cs_length csb ccsb gcsb se seb se_length seb cseb gseb)
set_option maxHeartbeats 4000000 in
set_option maxRecDepth 100000 in
theorem c_CO_keepCode (l : Launch) (dC : Nat → ClassId) (dI : Nat → Nat → Nat) (sz : Nat) (h0 pr kn lt pe to bo cs se bob csb seb : Nat) (clt cbob ccsb cseb : ClassId) (h0_localCount : Int32) (h0_pendingCount : Int32) (h0_gives : Int32) (h0_depth : Int32) (h0_loopDepth : Int32) (wlt : Nat → Int32) (bo_length : Int32) (gbob : Nat → Int32) (cs_length : Int32) (gcsb : Nat → Int32) (se_length : Int32) (gseb : Nat → Int32)  (b_h0_localCount : 0 ≤ h0_localCount.toInt ∧ h0_localCount.toInt ≤ 50) (b_bo_length : 0 ≤ bo_length.toInt ∧ bo_length.toInt ≤ 8192) (b_cs_length : 0 ≤ cs_length.toInt ∧ cs_length.toInt ≤ 8192) (b_se_length : 0 ≤ se_length.toInt ∧ se_length.toInt ≤ 8192) (p0 : Int32)  (hp : 0 ≤ p0.toInt ∧ p0.toInt ≤ h0_localCount.toInt) (hlq : bx (gq h0_localCount.toInt wlt)) (hro : cs_length.toInt + bo_length.toInt + 110 ≤ 8192) : Met l y_CO_keepCode w_CO_keepCode ({ frames := 2, cells := 0, slots := 0, locals := 45 }) (va_Pc [.ref h0, .int p0] (fun U => U.heap.size = sz ∧ va_P (dC, dI) cls (wz_212 h0 pr kn lt h0_localCount pe h0_pendingCount h0_gives h0_depth h0_loopDepth to bo cs se lt clt wlt bo bob bo_length bob cbob gbob cs csb cs_length csb ccsb gcsb se seb se_length seb cseb gseb) U.heap ∧ va_K (dC, dI) cls [(clt, .int), (cbob, .byte), (ccsb, .byte), (cseb, .byte)] U ∧ va_D (fun _ => True) (wz_212 h0 pr kn lt h0_localCount pe h0_pendingCount h0_gives h0_depth h0_loopDepth to bo cs se lt clt wlt bo bob bo_length bob cbob gbob cs csb cs_length csb ccsb gcsb se seb se_length seb cseb gseb))) (va_Qv (fun (u : (Nat → Int32) × (Nat → Int32) × Int32 × Int32) => match u with | (gcsb2, gseb2, cs_length2, se_length2) => (0 ≤ cs_length2.toInt ∧ cs_length2.toInt ≤ 8192) ∧ (0 ≤ se_length2.toInt ∧ se_length2.toInt ≤ 8192) ∧ (∃ R : List (Nat × Nat), rok R ∧ (rsum R : Int) = h0_localCount.toInt - p0.toInt ∧ (R.length : Int) ≤ h0_localCount.toInt - p0.toInt ∧ cs_length2.toInt = cs_length.toInt + (leb 5 ((R.length :: rb R).length + bo_length.toNatClampNeg)).length + ((R.length :: rb R).length + bo_length.toNatClampNeg) ∧ bl gcsb2 cs_length2.toNatClampNeg = bl gcsb cs_length.toNatClampNeg ++ (leb 5 ((R.length :: rb R).length + bo_length.toNatClampNeg) ++ ((R.length :: rb R) ++ bl gbob bo_length.toNatClampNeg)))) (at_CO_keepCode dC dI h0 pr kn lt pe to bo cs se bob csb seb clt cbob ccsb cseb h0_localCount h0_pendingCount h0_gives h0_depth h0_loopDepth wlt bo_length gbob (va_A (wz_212 h0 pr kn lt h0_localCount pe h0_pendingCount h0_gives h0_depth h0_loopDepth to bo cs se lt clt wlt bo bob bo_length bob cbob gbob cs csb cs_length csb ccsb gcsb se seb se_length seb cseb gseb) sz)) (va_A (wz_212 h0 pr kn lt h0_localCount pe h0_pendingCount h0_gives h0_depth h0_loopDepth to bo cs se lt clt wlt bo bob bo_length bob cbob gbob cs csb cs_length csb ccsb gcsb se seb se_length seb cseb gseb) sz)) 0 0 (va_A (wz_212 h0 pr kn lt h0_localCount pe h0_pendingCount h0_gives h0_depth h0_loopDepth to bo cs se lt clt wlt bo bob bo_length bob cbob gbob cs csb cs_length csb ccsb gcsb se seb se_length seb cseb gseb) sz) := by
  refine Met.ofW (cc := b_CO_keepCode) (maxL := 5) (ret := none) (by decide) rfl ?_
  intro p e s m args below meth c s₁ B hml hv
  obtain ⟨rfl, hsz, hP, hK, hD0⟩ := hv
  have hx := B.exec
  have hb := B.bytes
  have hr := B.returns
  have hts0 := atoms_spec (ws := w_CO_keepCode) B.pre
  have hts : ∀ w ∈ lw_g, w.before _ s = true := fun w h => hts0 w (List.mem_cons_of_mem _ h)
  have hown : s.vm.findClass R_CO = some m.cls := findClass_of_methodNamed B.named
  have hlocks := B.notSynchronized
  clear hts0
  subst hsz
  have hD := hD0.self (sz := s.heap.size)
  generalize hAe : va_A (wz_212 h0 pr kn lt h0_localCount pe h0_pendingCount h0_gives h0_depth h0_loopDepth to bo cs se lt clt wlt bo bob bo_length bob cbob gbob cs csb cs_length csb ccsb gcsb se seb se_length seb cseb gseb) s.heap.size = A at hD ⊢
  have hA : ∀ q : Nat, s.heap.size ≤ q → A q := fun q h => by rw [← hAe]; exact Or.inr h
  clear hAe
  have hP : va_P (dC, dI) cls (wz_212 h0 pr kn lt h0_localCount pe h0_pendingCount h0_gives h0_depth h0_loopDepth to bo cs se lt clt wlt bo bob bo_length bob cbob gbob cs csb cs_length csb ccsb gcsb se seb se_length seb cseb gseb) s.heap := hP
  have hl := lv_entry ([.ref h0, .int p0]) (n := 5) (Nat.le_of_ble_eq_true rfl)
  rw [lg_entry_eq]
  generalize (lg_sl ([.ref h0, .int p0]) ++ List.replicate (5 - (lg_sl ([.ref h0, .int p0])).length) Slot.unset).toArray = ls at hl ⊢
  have hl : lv_has ls 5 [(0, .ref h0), (1, .int p0)] := hl
  have k0 : (0 : Int32).toInt = 0 := by decide
  refine w_gen (A := A) hP (fun H locs hP hS => ?_)
  have k1 : (1 : Int32).toInt = 1 := by decide
  have lo_p0 := i32_lo p0
  have hi_p0 := i32_hi p0
  refine lv_iconst (v := 0) hx hb d_CO_keepCode_0 (by decide) ?_
  refine lv_istore_n (lv' := [(2, .int 0), (0, .ref h0), (1, .int p0)]) hx hb d_CO_keepCode_1 rfl hl (by decide) rfl (fun ls hl => ?_)
  refine lv_iload_n hx hb d_CO_keepCode_2 rfl (lv_at hl 2 rfl) ?_
  refine lv_istore_n (lv' := [(3, .int p0), (2, .int 0), (0, .ref h0), (1, .int p0)]) hx hb d_CO_keepCode_3 rfl hl (by decide) rfl (fun ls hl => ?_)
  refine w_loop (σ := Int32 × Int32) (fun u H locs ls => match u with | (j4_l2, j4_l3) => (p0.toInt ≤ j4_l3.toInt ∧ j4_l3.toInt ≤ h0_localCount.toInt) ∧ (j4_l2.toInt = ((rst wlt p0.toInt.toNat (j4_l3.toInt - p0.toInt).toNat : Nat) : Int)) ∧ va_P (dC, dI) cls (wz_212 h0 pr kn lt h0_localCount pe h0_pendingCount h0_gives h0_depth h0_loopDepth to bo cs se lt clt wlt bo bob bo_length bob cbob gbob cs csb cs_length csb ccsb gcsb se seb se_length seb cseb gseb) H ∧ va_D A (wz_212 h0 pr kn lt h0_localCount pe h0_pendingCount h0_gives h0_depth h0_loopDepth to bo cs se lt clt wlt bo bob bo_length bob cbob gbob cs csb cs_length csb ccsb gcsb se seb se_length seb cseb gseb) ∧ va_S A s.heap H locs ∧ lv_has ls 5 [(0, .ref h0), (1, .int p0), (2, .int j4_l2), (3, .int j4_l3)]) (fun u => match u with | (j4_l2, j4_l3) => (h0_localCount.toInt - j4_l3.toInt).toNat) ?_ (0, p0) ⟨by (try dsimp only) <;> (first | (apply Int.le_antisymm <;> omega) | omega), (by rw [show (p0.toInt - p0.toInt).toNat = 0 from by (first | (apply Int.le_antisymm <;> omega) | omega)]; rfl), hP, hD, hS, lv_sub hl [2, 3, 1, 0] rfl⟩
  intro N4 ih4 u H locs ls hN4 hI
  obtain ⟨j4_l2, j4_l3⟩ := u
  obtain ⟨v1, v3, hP, hD, hS, hl⟩ := hI
  have hN4 : (h0_localCount.toInt - j4_l3.toInt).toNat < N4 + 1 := hN4
  refine lv_iload_n hx hb d_CO_keepCode_4 rfl (lv_at hl 3 rfl) ?_
  refine lv_aload_n hx hb d_CO_keepCode_5 rfl (lv_at hl 0 rfl) ?_
  refine va_get (D := (dC, dI)) (ci := 2) (v := .int h0_localCount) (C := R_CO) (T := F_CO) (N := 13) hx hb hts i_CO hown hK hP 0 rfl rfl 3 (by decide) (hts _ kF_CO_109) (fun _ h9 => h9) rfl d_CO_keepCode_6 ?_
  refine lv_icmp_ge (tgt := 43) hx hb d_CO_keepCode_9 (by decide) (fun c9 => ?_) (fun c9 => ?_)
  · have q9 := leI c9
    have w4 := rst_le (lt := wlt) (p := p0.toInt.toNat) (j4_l3.toInt - p0.toInt).toNat
    refine lv_aload_n hx hb d_CO_keepCode_43 rfl (lv_at hl 0 rfl) ?_
    refine va_get (D := (dC, dI)) (ci := 2) (v := .ref se) (C := R_CO) (T := F_CO) (N := 13) hx hb hts i_CO hown hK hP 0 rfl rfl 12 (by decide) (hts _ kF_CO_33) (fun _ h9 => h9) rfl d_CO_keepCode_44 ?_
    refine lv_iconst (v := 0) hx hb d_CO_keepCode_47 (by decide) ?_
    refine va_put (D := (dC, dI)) (ci := 1) (v := .int 0) (ty := .int) (C := R_BR) (T := F_BR) (N := 2) hx hb hts i_BR t_BR t_BR_ok n_BR hown hK hP hD hS 6 rfl rfl 1 (by decide) (hts _ kF_CO_64) (fun _ h9 => h9) rfl (by decide +kernel) rfl rfl (Nat.le_of_ble_eq_true rfl) d_CO_keepCode_48 (fun H locs hP hD hS => ?_)
    refine lv_aload_n hx hb d_CO_keepCode_51 rfl (lv_at hl 0 rfl) ?_
    refine va_get (D := (dC, dI)) (ci := 2) (v := .ref se) (C := R_CO) (T := F_CO) (N := 13) hx hb hts i_CO hown hK hP 0 rfl rfl 12 (by decide) (hts _ kF_CO_33) (fun _ h9 => h9) rfl d_CO_keepCode_52 ?_
    refine lv_iload_n hx hb d_CO_keepCode_55 rfl (lv_at hl 2 rfl) ?_
    have hPc := hP.sb (wq := (wz_94 se seb 0 seb cseb gseb)) [6, 7] rfl
    have hDc := hD.sb (wq := (wz_94 se seb 0 seb cseb gseb)) [6, 7] (by decide) rfl
    have hKc := hK.sb (tyq := [(cseb, .byte)]) [3] rfl
    have hFc := va_free (wc := (wz_94 se seb 0 seb cseb gseb)) hD hS hA [6, 7] rfl
    refine va_callv (va_runV (As := [.int j4_l2]) (rest := []) ⟨hx, hb, hml, hown, hts⟩ (c_BR_putUnsigned l dC dI se seb H.size cseb 8192 0 gseb (by (first | (apply Int.le_antisymm <;> omega) | omega)) (by (first | (apply Int.le_antisymm <;> omega) | omega)) (by (first | (apply Int.le_antisymm <;> omega) | omega)) j4_l2 (by (first | (apply Int.le_antisymm <;> omega) | omega))) (cwV 1 hts (gV kM_CO_218 kV_BR_putUnsigned kS_BR_putUnsigned kI_BR kC_BR_putUnsigned) rfl rfl rfl (by decide +kernel) ⟨Nat.le_of_ble_eq_true rfl, Nat.le_of_ble_eq_true rfl⟩) ⟨fun a U g mk z => by obtain ⟨z0, z1, zP, zK, zD⟩ := z; exact ⟨z0, z1, zP, va_K.moved (u := U) (U := U.calling g mk a) (Vm.Alike.refl U.vm) zK, zD⟩, va_recv hKc hPc (ci := 1) (q0 := 0) rfl rfl, fun U hU hW => ⟨rfl, by rw [hU], va_P.he hU.symm hPc, va_K.moved hW.alike hKc, hDc.weaken (fun _ _ _ _ => trivial)⟩⟩ rfl rfl hl.1 rfl (lv_room (Nat.le_of_ble_eq_true rfl)) d_CO_keepCode_56 ⟨(Nat.zero_le _), (Nat.zero_le _)⟩) hS (fun q _ h => hFc q h) hFc (fun u t H1 locs ht hvm hw hB hz1 hk1 hS => ?_)
    obtain ⟨n2, f3⟩ := u
    try dsimp only at hw
    obtain ⟨tn2, bn2⟩ := hw
    have ln2 := leb_len 5 (un j4_l2)
    obtain ⟨hP1, hK1, hD1⟩ := hB
    replace hP1 := va_P.he ht hP1
    obtain ⟨hP, hD⟩ := va_join (wr := (wz_213 h0 pr kn lt h0_localCount pe h0_pendingCount h0_gives h0_depth h0_loopDepth to bo cs se lt clt wlt bo bob bo_length bob cbob gbob cs csb cs_length csb ccsb gcsb)) (w1 := (wz_94 se seb n2 seb cseb f3)) hP hD [6, 7] [0, 1, 2, 3, 4, 5] rfl rfl (by decide) (by decide) hk1 hFc hP1 hD1
    clear hPc hDc hKc hFc hz1 hk1 hP1 hK1 hD1
    rename Heap => H
    have hP : va_P (dC, dI) cls (wz_212 h0 pr kn lt h0_localCount pe h0_pendingCount h0_gives h0_depth h0_loopDepth to bo cs se lt clt wlt bo bob bo_length bob cbob gbob cs csb cs_length csb ccsb gcsb se seb n2 seb cseb f3) H := hP
    have hD : va_D A (wz_212 h0 pr kn lt h0_localCount pe h0_pendingCount h0_gives h0_depth h0_loopDepth to bo cs se lt clt wlt bo bob bo_length bob cbob gbob cs csb cs_length csb ccsb gcsb se seb n2 seb cseb f3) := hD
    have l59 := congrArg List.length (leb_s (x := j4_l2) (by (first | (apply Int.le_antisymm <;> omega) | omega)) (by (first | (apply Int.le_antisymm <;> omega) | omega)))
    rw [List.length_singleton] at l59
    refine lv_iconst (v := 0) hx hb d_CO_keepCode_59 (by decide) ?_
    refine lv_istore_n (lv' := [(3, .int 0), (0, .ref h0), (1, .int p0), (2, .int j4_l2)]) hx hb d_CO_keepCode_60 rfl hl (by decide) rfl (fun ls hl => ?_)
    refine lv_iload_n hx hb d_CO_keepCode_61 rfl (lv_at hl 2 rfl) ?_
    refine lv_istore (lv' := [(4, .int p0), (3, .int 0), (0, .ref h0), (1, .int p0), (2, .int j4_l2)]) hx hb d_CO_keepCode_62 hl (by decide) rfl (fun ls hl => ?_)
    refine w_loop (σ := Int32 × Int32 × (Nat → Int32) × Int32) (fun u H locs ls => match u with | (j64_l3, j64_l4, j64_seb, j64_se_length) => (0 ≤ j64_se_length.toInt ∧ j64_se_length.toInt ≤ 8192) ∧ (p0.toInt ≤ j64_l4.toInt ∧ j64_l4.toInt ≤ h0_localCount.toInt ∧ 0 ≤ j64_l3.toInt ∧ j64_l3.toInt ≤ 50) ∧ (∃ R : List (Nat × Nat), rI wlt p0.toInt.toNat (j64_l4.toInt - p0.toInt).toNat j64_l3.toInt.toNat (h0_localCount.toInt - p0.toInt).toNat R ∧ bl j64_seb j64_se_length.toNatClampNeg = [j4_l2.toInt.toNat] ++ rb R ∧ j64_se_length.toInt = 1 + 2 * (R.length : Int)) ∧ va_P (dC, dI) cls (wz_212 h0 pr kn lt h0_localCount pe h0_pendingCount h0_gives h0_depth h0_loopDepth to bo cs se lt clt wlt bo bob bo_length bob cbob gbob cs csb cs_length csb ccsb gcsb se seb j64_se_length seb cseb j64_seb) H ∧ va_D A (wz_212 h0 pr kn lt h0_localCount pe h0_pendingCount h0_gives h0_depth h0_loopDepth to bo cs se lt clt wlt bo bob bo_length bob cbob gbob cs csb cs_length csb ccsb gcsb se seb j64_se_length seb cseb j64_seb) ∧ va_S A s.heap H locs ∧ lv_has ls 5 [(0, .ref h0), (3, .int j64_l3), (4, .int j64_l4)]) (fun u => match u with | (j64_l3, j64_l4, j64_seb, j64_se_length) => (h0_localCount.toInt - j64_l4.toInt).toNat) ?_ (0, p0, f3, n2) ⟨by (try dsimp only) <;> (first | (apply Int.le_antisymm <;> omega) | omega), by (try dsimp only) <;> (first | (apply Int.le_antisymm <;> omega) | omega), ⟨[], (by rw [show (p0.toInt - p0.toInt).toNat = 0 from by (first | (apply Int.le_antisymm <;> omega) | omega)]; exact rI_0), by rw [bn2, leb_s (by (first | (apply Int.le_antisymm <;> omega) | omega)) (by (first | (apply Int.le_antisymm <;> omega) | omega))]; rfl, by (try dsimp only); rw [tn2, l59]; rfl⟩, hP, hD, hS, lv_sub hl [2, 1, 0] rfl⟩
    intro N64 ih64 u H locs ls hN64 hI
    obtain ⟨j64_l3, j64_l4, j64_seb, j64_se_length⟩ := u
    obtain ⟨b_j64_se_length, u1, hr, hP, hD, hS, hl⟩ := hI
    have hN64 : (h0_localCount.toInt - j64_l4.toInt).toNat < N64 + 1 := hN64
    refine lv_iload hx hb d_CO_keepCode_64 (lv_at hl 2 rfl) ?_
    refine lv_aload_n hx hb d_CO_keepCode_66 rfl (lv_at hl 0 rfl) ?_
    refine va_get (D := (dC, dI)) (ci := 2) (v := .int h0_localCount) (C := R_CO) (T := F_CO) (N := 13) hx hb hts i_CO hown hK hP 0 rfl rfl 3 (by decide) (hts _ kF_CO_109) (fun _ h9 => h9) rfl d_CO_keepCode_67 ?_
    refine lv_icmp_ge (tgt := 136) hx hb d_CO_keepCode_70 (by decide) (fun c70 => ?_) (fun c70 => ?_)
    · have q70 := leI c70
      obtain ⟨R9, r9, e9, n9⟩ := hr
      have w9 := rst_le (lt := wlt) (p := p0.toInt.toNat) (j64_l4.toInt - p0.toInt).toNat
      have w8 := r9.2.2.1
      have w7 := r9.2.1
      have w6 : R9.length ≤ (j64_l4.toInt - p0.toInt).toNat := by split at w8 <;> (first | (apply Int.le_antisymm <;> omega) | omega)
      have w5 := r9.2.2.2.2 (by (first | (apply Int.le_antisymm <;> omega) | omega))
      rw [if_pos w5] at w8
      have v9 : (j64_l4.toInt - p0.toInt).toNat = (j4_l3.toInt - p0.toInt).toNat := by (first | (apply Int.le_antisymm <;> omega) | omega)
      rw [v9] at w8
      clear w6 w9
      refine lv_aload_n hx hb d_CO_keepCode_136 rfl (lv_at hl 0 rfl) ?_
      refine va_get (D := (dC, dI)) (ci := 2) (v := .ref cs) (C := R_CO) (T := F_CO) (N := 13) hx hb hts i_CO hown hK hP 0 rfl rfl 11 (by decide) (hts _ kF_CO_30) (fun _ h9 => h9) rfl d_CO_keepCode_137 ?_
      refine lv_aload_n hx hb d_CO_keepCode_140 rfl (lv_at hl 0 rfl) ?_
      refine va_get (D := (dC, dI)) (ci := 2) (v := .ref se) (C := R_CO) (T := F_CO) (N := 13) hx hb hts i_CO hown hK hP 0 rfl rfl 12 (by decide) (hts _ kF_CO_33) (fun _ h9 => h9) rfl d_CO_keepCode_141 ?_
      refine va_get (D := (dC, dI)) (ci := 1) (v := .int j64_se_length) (C := R_BR) (T := F_BR) (N := 2) hx hb hts i_BR hown hK hP 6 rfl rfl 1 (by decide) (hts _ kF_CO_64) (fun _ h9 => h9) rfl d_CO_keepCode_144 ?_
      refine lv_aload_n hx hb d_CO_keepCode_147 rfl (lv_at hl 0 rfl) ?_
      refine va_get (D := (dC, dI)) (ci := 2) (v := .ref bo) (C := R_CO) (T := F_CO) (N := 13) hx hb hts i_CO hown hK hP 0 rfl rfl 10 (by decide) (hts _ kF_CO_26) (fun _ h9 => h9) rfl d_CO_keepCode_148 ?_
      refine va_get (D := (dC, dI)) (ci := 1) (v := .int bo_length) (C := R_BR) (T := F_BR) (N := 2) hx hb hts i_BR hown hK hP 2 rfl rfl 1 (by decide) (hts _ kF_CO_64) (fun _ h9 => h9) rfl d_CO_keepCode_151 ?_
      refine lv_iadd hx hb d_CO_keepCode_154 ?_
      refine lv_topi (fun x4 ex4 => ?_)
      have tx4 : x4.toInt = j64_se_length.toInt + bo_length.toInt := by have z := i32_add ex4 (by (first | (apply Int.le_antisymm <;> omega) | omega)) (by (first | (apply Int.le_antisymm <;> omega) | omega)); first | exact z | (first | (apply Int.le_antisymm <;> omega) | omega)
      have usz : un x4 = ((R9.length :: rb R9).length + bo_length.toNatClampNeg) := by rw [un_nat (by (first | (apply Int.le_antisymm <;> omega) | omega)), List.length_cons, rb_len]; have := i32_clamp (x := bo_length) (by (first | (apply Int.le_antisymm <;> omega) | omega)); (first | (apply Int.le_antisymm <;> omega) | omega)
      have us2 : (un x4 : Int) = x4.toInt := by rw [un_nat (by (first | (apply Int.le_antisymm <;> omega) | omega))]; (first | (apply Int.le_antisymm <;> omega) | omega)
      have ulb := leb_len 5 (un x4)
      have hPc := hP.sb (wq := (wz_94 cs csb cs_length csb ccsb gcsb)) [4, 5] rfl
      have hDc := hD.sb (wq := (wz_94 cs csb cs_length csb ccsb gcsb)) [4, 5] (by decide) rfl
      have hKc := hK.sb (tyq := [(ccsb, .byte)]) [2] rfl
      have hFc := va_free (wc := (wz_94 cs csb cs_length csb ccsb gcsb)) hD hS hA [4, 5] rfl
      refine va_callv (va_runV (As := [.int x4]) (rest := []) ⟨hx, hb, hml, hown, hts⟩ (c_BR_putUnsigned l dC dI cs csb H.size ccsb 8192 cs_length gcsb (by (first | (apply Int.le_antisymm <;> omega) | omega)) (by (first | (apply Int.le_antisymm <;> omega) | omega)) (by (first | (apply Int.le_antisymm <;> omega) | omega)) x4 (by (first | (apply Int.le_antisymm <;> omega) | omega))) (cwV 1 hts (gV kM_CO_218 kV_BR_putUnsigned kS_BR_putUnsigned kI_BR kC_BR_putUnsigned) rfl rfl rfl (by decide +kernel) ⟨Nat.le_of_ble_eq_true rfl, Nat.le_of_ble_eq_true rfl⟩) ⟨fun a U g mk z => by obtain ⟨z0, z1, zP, zK, zD⟩ := z; exact ⟨z0, z1, zP, va_K.moved (u := U) (U := U.calling g mk a) (Vm.Alike.refl U.vm) zK, zD⟩, va_recv hKc hPc (ci := 1) (q0 := 0) rfl rfl, fun U hU hW => ⟨rfl, by rw [hU], va_P.he hU.symm hPc, va_K.moved hW.alike hKc, hDc.weaken (fun _ _ _ _ => trivial)⟩⟩ rfl rfl hl.1 rfl (lv_room (Nat.le_of_ble_eq_true rfl)) d_CO_keepCode_155 ⟨(Nat.zero_le _), (Nat.zero_le _)⟩) hS (fun q _ h => hFc q h) hFc (fun u t H1 locs ht hvm hw hB hz1 hk1 hS => ?_)
      obtain ⟨n6, f7⟩ := u
      try dsimp only at hw
      obtain ⟨tn6, bn6⟩ := hw
      have ln6 := leb_len 5 (un x4)
      obtain ⟨hP1, hK1, hD1⟩ := hB
      replace hP1 := va_P.he ht hP1
      obtain ⟨hP, hD⟩ := va_join (wr := (wz_213 h0 pr kn lt h0_localCount pe h0_pendingCount h0_gives h0_depth h0_loopDepth to bo cs se lt clt wlt bo bob bo_length bob cbob gbob se seb j64_se_length seb cseb j64_seb)) (w1 := (wz_94 cs csb n6 csb ccsb f7)) hP hD [4, 5] [0, 1, 2, 3, 6, 7] rfl rfl (by decide) (by decide) hk1 hFc hP1 hD1
      clear hPc hDc hKc hFc hz1 hk1 hP1 hK1 hD1
      rename Heap => H
      have hP : va_P (dC, dI) cls (wz_212 h0 pr kn lt h0_localCount pe h0_pendingCount h0_gives h0_depth h0_loopDepth to bo cs se lt clt wlt bo bob bo_length bob cbob gbob se seb j64_se_length seb cseb j64_seb cs csb n6 csb ccsb f7) H := hP
      have hD : va_D A (wz_212 h0 pr kn lt h0_localCount pe h0_pendingCount h0_gives h0_depth h0_loopDepth to bo cs se lt clt wlt bo bob bo_length bob cbob gbob se seb j64_se_length seb cseb j64_seb cs csb n6 csb ccsb f7) := hD
      refine lv_aload_n hx hb d_CO_keepCode_158 rfl (lv_at hl 0 rfl) ?_
      refine va_get (D := (dC, dI)) (ci := 2) (v := .ref cs) (C := R_CO) (T := F_CO) (N := 13) hx hb hts i_CO hown hK hP 0 rfl rfl 11 (by decide) (hts _ kF_CO_30) (fun _ h9 => h9) rfl d_CO_keepCode_159 ?_
      refine lv_aload_n hx hb d_CO_keepCode_162 rfl (lv_at hl 0 rfl) ?_
      refine va_get (D := (dC, dI)) (ci := 2) (v := .ref se) (C := R_CO) (T := F_CO) (N := 13) hx hb hts i_CO hown hK hP 0 rfl rfl 12 (by decide) (hts _ kF_CO_33) (fun _ h9 => h9) rfl d_CO_keepCode_163 ?_
      refine lv_iconst (v := 0) hx hb d_CO_keepCode_166 (by decide) ?_
      refine lv_aload_n hx hb d_CO_keepCode_167 rfl (lv_at hl 0 rfl) ?_
      refine va_get (D := (dC, dI)) (ci := 2) (v := .ref se) (C := R_CO) (T := F_CO) (N := 13) hx hb hts i_CO hown hK hP 0 rfl rfl 12 (by decide) (hts _ kF_CO_33) (fun _ h9 => h9) rfl d_CO_keepCode_168 ?_
      refine va_get (D := (dC, dI)) (ci := 1) (v := .int j64_se_length) (C := R_BR) (T := F_BR) (N := 2) hx hb hts i_BR hown hK hP 4 rfl rfl 1 (by decide) (hts _ kF_CO_64) (fun _ h9 => h9) rfl d_CO_keepCode_171 ?_
      have hPc := hP.sb (wq := (wz_214 cs csb n6 csb ccsb f7 se seb j64_se_length seb cseb j64_seb)) [6, 7, 4, 5] rfl
      have hDc := hD.sb (wq := (wz_214 cs csb n6 csb ccsb f7 se seb j64_se_length seb cseb j64_seb)) [6, 7, 4, 5] (by decide) rfl
      have hKc := hK.sb (tyq := [(ccsb, .byte), (cseb, .byte)]) [2, 3] rfl
      have hFc := va_free (wc := (wz_214 cs csb n6 csb ccsb f7 se seb j64_se_length seb cseb j64_seb)) hD hS hA [6, 7, 4, 5] rfl
      refine va_callv (va_runV (As := [.ref se, .int 0, .int j64_se_length]) (rest := []) ⟨hx, hb, hml, hown, hts⟩ (c_BR_putPart l dC dI cs csb se seb H.size ccsb cseb 8192 8192 n6 j64_se_length f7 j64_seb (by (first | (apply Int.le_antisymm <;> omega) | omega)) (by (first | (apply Int.le_antisymm <;> omega) | omega)) (by (first | (apply Int.le_antisymm <;> omega) | omega)) (by (first | (apply Int.le_antisymm <;> omega) | omega)) (by (first | (apply Int.le_antisymm <;> omega) | omega)) (by (first | (apply Int.le_antisymm <;> omega) | omega)) 0 j64_se_length (by (first | (apply Int.le_antisymm <;> omega) | omega)) (by (first | (apply Int.le_antisymm <;> omega) | omega)) (by (first | (apply Int.le_antisymm <;> omega) | omega)) (by (first | (apply Int.le_antisymm <;> omega) | omega))) (cwV 3 hts (gV kM_CO_288 kV_BR_putPart kS_BR_putPart kI_BR kC_BR_putPart) rfl rfl rfl (by decide +kernel) ⟨Nat.le_of_ble_eq_true rfl, Nat.le_of_ble_eq_true rfl⟩) ⟨fun a U g mk z => by obtain ⟨z0, z1, zP, zK, zD⟩ := z; exact ⟨z0, z1, zP, va_K.moved (u := U) (U := U.calling g mk a) (Vm.Alike.refl U.vm) zK, zD⟩, va_recv hKc hPc (ci := 1) (q0 := 0) rfl rfl, fun U hU hW => ⟨rfl, by rw [hU], va_P.he hU.symm hPc, va_K.moved hW.alike hKc, hDc.weaken (fun _ _ _ _ => trivial)⟩⟩ rfl rfl hl.1 rfl (lv_room (Nat.le_of_ble_eq_true rfl)) d_CO_keepCode_174 ⟨(Nat.zero_le _), (Nat.zero_le _)⟩) hS (fun q _ h => hFc q h) hFc (fun u t H1 locs ht hvm hw hB hz1 hk1 hS => ?_)
      obtain ⟨n9, f10⟩ := u
      try dsimp only at hw
      obtain ⟨tn9, bn9⟩ := hw
      obtain ⟨hP1, hK1, hD1⟩ := hB
      replace hP1 := va_P.he ht hP1
      obtain ⟨hP, hD⟩ := va_join (wr := [(h0, .inr (2, [.ref pr, .ref kn, .ref lt, .int h0_localCount, .ref pe, .int h0_pendingCount, .int h0_gives, .int h0_depth, .int h0_loopDepth, .ref to, .ref bo, .ref cs, .ref se])), (lt, .inl (clt, 50, .inl wlt)), (bo, .inr (1, [.ref bob, .int bo_length])), (bob, .inl (cbob, 8192, .inl gbob))]) (w1 := (wz_214 cs csb n9 csb ccsb f10 se seb j64_se_length seb cseb j64_seb)) hP hD [6, 7, 4, 5] [0, 1, 2, 3] rfl rfl (by decide) (by decide) hk1 hFc hP1 hD1
      clear hPc hDc hKc hFc hz1 hk1 hP1 hK1 hD1
      rename Heap => H
      have hP : va_P (dC, dI) cls (wz_212 h0 pr kn lt h0_localCount pe h0_pendingCount h0_gives h0_depth h0_loopDepth to bo cs se lt clt wlt bo bob bo_length bob cbob gbob cs csb n9 csb ccsb f10 se seb j64_se_length seb cseb j64_seb) H := hP
      have hD : va_D A (wz_212 h0 pr kn lt h0_localCount pe h0_pendingCount h0_gives h0_depth h0_loopDepth to bo cs se lt clt wlt bo bob bo_length bob cbob gbob cs csb n9 csb ccsb f10 se seb j64_se_length seb cseb j64_seb) := hD
      refine lv_aload_n hx hb d_CO_keepCode_177 rfl (lv_at hl 0 rfl) ?_
      refine va_get (D := (dC, dI)) (ci := 2) (v := .ref cs) (C := R_CO) (T := F_CO) (N := 13) hx hb hts i_CO hown hK hP 0 rfl rfl 11 (by decide) (hts _ kF_CO_30) (fun _ h9 => h9) rfl d_CO_keepCode_178 ?_
      refine lv_aload_n hx hb d_CO_keepCode_181 rfl (lv_at hl 0 rfl) ?_
      refine va_get (D := (dC, dI)) (ci := 2) (v := .ref bo) (C := R_CO) (T := F_CO) (N := 13) hx hb hts i_CO hown hK hP 0 rfl rfl 10 (by decide) (hts _ kF_CO_26) (fun _ h9 => h9) rfl d_CO_keepCode_182 ?_
      refine lv_iconst (v := 0) hx hb d_CO_keepCode_185 (by decide) ?_
      refine lv_aload_n hx hb d_CO_keepCode_186 rfl (lv_at hl 0 rfl) ?_
      refine va_get (D := (dC, dI)) (ci := 2) (v := .ref bo) (C := R_CO) (T := F_CO) (N := 13) hx hb hts i_CO hown hK hP 0 rfl rfl 10 (by decide) (hts _ kF_CO_26) (fun _ h9 => h9) rfl d_CO_keepCode_187 ?_
      refine va_get (D := (dC, dI)) (ci := 1) (v := .int bo_length) (C := R_BR) (T := F_BR) (N := 2) hx hb hts i_BR hown hK hP 2 rfl rfl 1 (by decide) (hts _ kF_CO_64) (fun _ h9 => h9) rfl d_CO_keepCode_190 ?_
      have hPc := hP.sb (wq := (wz_214 cs csb n9 csb ccsb f10 bo bob bo_length bob cbob gbob)) [4, 5, 2, 3] rfl
      have hDc := hD.sb (wq := (wz_214 cs csb n9 csb ccsb f10 bo bob bo_length bob cbob gbob)) [4, 5, 2, 3] (by decide) rfl
      have hKc := hK.sb (tyq := [(ccsb, .byte), (cbob, .byte)]) [2, 1] rfl
      have hFc := va_free (wc := (wz_214 cs csb n9 csb ccsb f10 bo bob bo_length bob cbob gbob)) hD hS hA [4, 5, 2, 3] rfl
      refine va_callv (va_runV (As := [.ref bo, .int 0, .int bo_length]) (rest := []) ⟨hx, hb, hml, hown, hts⟩ (c_BR_putPart l dC dI cs csb bo bob H.size ccsb cbob 8192 8192 n9 bo_length f10 gbob (by (first | (apply Int.le_antisymm <;> omega) | omega)) (by (first | (apply Int.le_antisymm <;> omega) | omega)) (by (first | (apply Int.le_antisymm <;> omega) | omega)) (by (first | (apply Int.le_antisymm <;> omega) | omega)) (by (first | (apply Int.le_antisymm <;> omega) | omega)) (by (first | (apply Int.le_antisymm <;> omega) | omega)) 0 bo_length (by (first | (apply Int.le_antisymm <;> omega) | omega)) (by (first | (apply Int.le_antisymm <;> omega) | omega)) (by (first | (apply Int.le_antisymm <;> omega) | omega)) (by (first | (apply Int.le_antisymm <;> omega) | omega))) (cwV 3 hts (gV kM_CO_288 kV_BR_putPart kS_BR_putPart kI_BR kC_BR_putPart) rfl rfl rfl (by decide +kernel) ⟨Nat.le_of_ble_eq_true rfl, Nat.le_of_ble_eq_true rfl⟩) ⟨fun a U g mk z => by obtain ⟨z0, z1, zP, zK, zD⟩ := z; exact ⟨z0, z1, zP, va_K.moved (u := U) (U := U.calling g mk a) (Vm.Alike.refl U.vm) zK, zD⟩, va_recv hKc hPc (ci := 1) (q0 := 0) rfl rfl, fun U hU hW => ⟨rfl, by rw [hU], va_P.he hU.symm hPc, va_K.moved hW.alike hKc, hDc.weaken (fun _ _ _ _ => trivial)⟩⟩ rfl rfl hl.1 rfl (lv_room (Nat.le_of_ble_eq_true rfl)) d_CO_keepCode_193 ⟨(Nat.zero_le _), (Nat.zero_le _)⟩) hS (fun q _ h => hFc q h) hFc (fun u t H1 locs ht hvm hw hB hz1 hk1 hS => ?_)
      obtain ⟨n12, f13⟩ := u
      try dsimp only at hw
      obtain ⟨tn12, bn12⟩ := hw
      obtain ⟨hP1, hK1, hD1⟩ := hB
      replace hP1 := va_P.he ht hP1
      obtain ⟨hP, hD⟩ := va_join (wr := [(h0, .inr (2, [.ref pr, .ref kn, .ref lt, .int h0_localCount, .ref pe, .int h0_pendingCount, .int h0_gives, .int h0_depth, .int h0_loopDepth, .ref to, .ref bo, .ref cs, .ref se])), (lt, .inl (clt, 50, .inl wlt)), (se, .inr (1, [.ref seb, .int j64_se_length])), (seb, .inl (cseb, 8192, .inl j64_seb))]) (w1 := (wz_214 cs csb n12 csb ccsb f13 bo bob bo_length bob cbob gbob)) hP hD [4, 5, 2, 3] [0, 1, 6, 7] rfl rfl (by decide) (by decide) hk1 hFc hP1 hD1
      clear hPc hDc hKc hFc hz1 hk1 hP1 hK1 hD1
      rename Heap => H
      have hP : va_P (dC, dI) cls (wz_212 h0 pr kn lt h0_localCount pe h0_pendingCount h0_gives h0_depth h0_loopDepth to bo cs se lt clt wlt se seb j64_se_length seb cseb j64_seb cs csb n12 csb ccsb f13 bo bob bo_length bob cbob gbob) H := hP
      have hD : va_D A (wz_212 h0 pr kn lt h0_localCount pe h0_pendingCount h0_gives h0_depth h0_loopDepth to bo cs se lt clt wlt se seb j64_se_length seb cseb j64_seb cs csb n12 csb ccsb f13 bo bob bo_length bob cbob gbob) := hD
      have hP9 := hP.sb (wq := (wz_212 h0 pr kn lt h0_localCount pe h0_pendingCount h0_gives h0_depth h0_loopDepth to bo cs se lt clt wlt bo bob bo_length bob cbob gbob cs csb n12 csb ccsb f13 se seb j64_se_length seb cseb j64_seb)) [0, 1, 6, 7, 4, 5, 2, 3] rfl
      have hD9 := hD.sb (wq := (wz_212 h0 pr kn lt h0_localCount pe h0_pendingCount h0_gives h0_depth h0_loopDepth to bo cs se lt clt wlt bo bob bo_length bob cbob gbob cs csb n12 csb ccsb f13 se seb j64_se_length seb cseb j64_seb)) [0, 1, 6, 7, 4, 5, 2, 3] (by decide) rfl
      exact W.vret hx hb hr (fun t ht hW => ⟨⟨(f13, j64_seb, n12, j64_se_length), rfl, ⟨by (try dsimp only) <;> (first | (apply Int.le_antisymm <;> omega) | omega), b_j64_se_length, ⟨R9, r9.1, by (first | (apply Int.le_antisymm <;> omega) | omega), by (first | (apply Int.le_antisymm <;> omega) | omega), by rw [← usz]; (try dsimp only) <;> (first | (apply Int.le_antisymm <;> omega) | omega), by (try dsimp only); rw [bn12, bn9, bn6, e9, show (0 : Int32).toNatClampNeg = 0 from rfl, List.drop_zero, List.drop_zero, List.take_of_length_le (by rw [List.length_append, List.length_singleton, rb_len]; have := i32_clamp (x := j64_se_length) (by (first | (apply Int.le_antisymm <;> omega) | omega)); (first | (apply Int.le_antisymm <;> omega) | omega)), List.take_of_length_le (by rw [bl_len]; exact Nat.le_refl _), ← usz, show j4_l2.toInt.toNat = R9.length from by (first | (apply Int.le_antisymm <;> omega) | omega)]; simp only [List.append_assoc]; rfl⟩⟩, va_P.he ht.symm hP9, va_K.moved hW.alike hK, hD9⟩, hS.F ht⟩) hS.2.2 d_CO_keepCode_196
    · have q70 := nleI c70
      obtain ⟨R9, r9, e9, n9⟩ := hr
      have w9 := rst_le (lt := wlt) (p := p0.toInt.toNat) (j64_l4.toInt - p0.toInt).toNat
      have w8 := r9.2.2.1
      have w7 := r9.2.1
      have w6 : R9.length ≤ (j64_l4.toInt - p0.toInt).toNat := by split at w8 <;> (first | (apply Int.le_antisymm <;> omega) | omega)
      obtain ⟨x14, ex14⟩ : ∃ z : Int32, z = j64_l3 + 1 := ⟨_, rfl⟩
      have tx14 : x14.toInt = j64_l3.toInt + 1 := by have z := i32_add ex14 (by (first | (apply Int.le_antisymm <;> omega) | omega)) (by (first | (apply Int.le_antisymm <;> omega) | omega)); first | exact z | (first | (apply Int.le_antisymm <;> omega) | omega)
      refine lv_iinc (v := x14) (lv' := [(3, .int x14), (0, .ref h0), (4, .int j64_l4)]) hx hb d_CO_keepCode_73 hl (k := 1) rfl (by rw [ex14]; rfl) (by decide) rfl (fun ls hl => ?_)
      refine lv_iload hx hb d_CO_keepCode_76 (lv_at hl 2 rfl) ?_
      refine lv_iconst (v := 1) hx hb d_CO_keepCode_78 (by decide) ?_
      refine lv_iadd hx hb d_CO_keepCode_79 ?_
      refine lv_topi (fun x15 ex15 => ?_)
      have tx15 : x15.toInt = j64_l4.toInt + 1 := by have z := i32_add ex15 (by (first | (apply Int.le_antisymm <;> omega) | omega)) (by (first | (apply Int.le_antisymm <;> omega) | omega)); first | exact z | (first | (apply Int.le_antisymm <;> omega) | omega)
      refine lv_aload_n hx hb d_CO_keepCode_80 rfl (lv_at hl 1 rfl) ?_
      refine va_get (D := (dC, dI)) (ci := 2) (v := .int h0_localCount) (C := R_CO) (T := F_CO) (N := 13) hx hb hts i_CO hown hK hP 0 rfl rfl 3 (by decide) (hts _ kF_CO_109) (fun _ h9 => h9) rfl d_CO_keepCode_81 ?_
      refine w_cut (pc2 := 130) (σ := Int32 × (Nat → Int32) × Int32) (fun u H locs ls => match u with | (j130_l3, j130_seb, j130_se_length) => (0 ≤ j130_se_length.toInt ∧ j130_se_length.toInt ≤ 8192) ∧ (0 ≤ j130_l3.toInt ∧ j130_l3.toInt ≤ 50) ∧ (∃ R : List (Nat × Nat), rI wlt p0.toInt.toNat ((j64_l4.toInt - p0.toInt).toNat + 1) j130_l3.toInt.toNat (h0_localCount.toInt - p0.toInt).toNat R ∧ bl j130_seb j130_se_length.toNatClampNeg = [j4_l2.toInt.toNat] ++ rb R ∧ j130_se_length.toInt = 1 + 2 * (R.length : Int)) ∧ va_P (dC, dI) cls (wz_212 h0 pr kn lt h0_localCount pe h0_pendingCount h0_gives h0_depth h0_loopDepth to bo cs se lt clt wlt bo bob bo_length bob cbob gbob cs csb cs_length csb ccsb gcsb se seb j130_se_length seb cseb j130_seb) H ∧ va_D A (wz_212 h0 pr kn lt h0_localCount pe h0_pendingCount h0_gives h0_depth h0_loopDepth to bo cs se lt clt wlt bo bob bo_length bob cbob gbob cs csb cs_length csb ccsb gcsb se seb j130_se_length seb cseb j130_seb) ∧ va_S A s.heap H locs ∧ lv_has ls 5 [(0, .ref h0), (3, .int j130_l3), (4, .int j64_l4)]) (fun u => match u with | (j130_l3, j130_seb, j130_se_length) => []) ?_ (fun jn130 => ?_)
      · intro u H locs ls hI
        obtain ⟨j130_l3, j130_seb, j130_se_length⟩ := u
        obtain ⟨b_j130_se_length, y130, hr, hP, hD, hS, hl⟩ := hI
        obtain ⟨x16, ex16⟩ : ∃ z : Int32, z = j64_l4 + 1 := ⟨_, rfl⟩
        have tx16 : x16.toInt = j64_l4.toInt + 1 := by have z := i32_add ex16 (by (first | (apply Int.le_antisymm <;> omega) | omega)) (by (first | (apply Int.le_antisymm <;> omega) | omega)); first | exact z | (first | (apply Int.le_antisymm <;> omega) | omega)
        refine lv_iinc (v := x16) (lv' := [(4, .int x16), (0, .ref h0), (3, .int j130_l3)]) hx hb d_CO_keepCode_130 hl (k := 2) rfl (by rw [ex16]; rfl) (by decide) rfl (fun ls hl => ?_)
        refine lv_goto (tgt := 64) hx hb d_CO_keepCode_133 (by decide) ?_
        exact ih64 (j130_l3, x16, j130_seb, j130_se_length) _ _ _ (by show (h0_localCount.toInt - x16.toInt).toNat < N64; (first | (apply Int.le_antisymm <;> omega) | omega)) ⟨b_j130_se_length, by (try dsimp only) <;> (first | (apply Int.le_antisymm <;> omega) | omega), (by rw [show (x16.toInt - p0.toInt).toNat = (j64_l4.toInt - p0.toInt).toNat + 1 from by (first | (apply Int.le_antisymm <;> omega) | omega)]; exact hr), hP, hD, hS, lv_sub hl [1, 2, 0] rfl⟩
      · skip
        refine w_cut (pc2 := 106) (σ := Unit) (fun u H locs ls => match u with | _ => ((j64_l4.toInt - p0.toInt).toNat + 1 = (h0_localCount.toInt - p0.toInt).toNat ∨ wlt (p0.toInt.toNat + ((j64_l4.toInt - p0.toInt).toNat + 1)) ≠ wlt (p0.toInt.toNat + (j64_l4.toInt - p0.toInt).toNat)) ∧ va_P (dC, dI) cls (wz_212 h0 pr kn lt h0_localCount pe h0_pendingCount h0_gives h0_depth h0_loopDepth to bo cs se lt clt wlt bo bob bo_length bob cbob gbob cs csb cs_length csb ccsb gcsb se seb j64_se_length seb cseb j64_seb) H ∧ va_D A (wz_212 h0 pr kn lt h0_localCount pe h0_pendingCount h0_gives h0_depth h0_loopDepth to bo cs se lt clt wlt bo bob bo_length bob cbob gbob cs csb cs_length csb ccsb gcsb se seb j64_se_length seb cseb j64_seb) ∧ va_S A s.heap H locs ∧ lv_has ls 5 [(0, .ref h0), (3, .int x14), (4, .int j64_l4)]) (fun u => match u with | _ => []) ?_ (fun jn106 => ?_)
        · intro u H locs ls hI
          obtain ⟨y106, hP, hD, hS, hl⟩ := hI
          refine lv_aload_n hx hb d_CO_keepCode_106 rfl (lv_at hl 0 rfl) ?_
          refine va_get (D := (dC, dI)) (ci := 2) (v := .ref se) (C := R_CO) (T := F_CO) (N := 13) hx hb hts i_CO hown hK hP 0 rfl rfl 12 (by decide) (hts _ kF_CO_33) (fun _ h9 => h9) rfl d_CO_keepCode_107 ?_
          refine lv_iload_n hx hb d_CO_keepCode_110 rfl (lv_at hl 1 rfl) ?_
          have hPc := hP.sb (wq := (wz_94 se seb j64_se_length seb cseb j64_seb)) [6, 7] rfl
          have hDc := hD.sb (wq := (wz_94 se seb j64_se_length seb cseb j64_seb)) [6, 7] (by decide) rfl
          have hKc := hK.sb (tyq := [(cseb, .byte)]) [3] rfl
          have hFc := va_free (wc := (wz_94 se seb j64_se_length seb cseb j64_seb)) hD hS hA [6, 7] rfl
          refine va_callv (va_runV (As := [.int x14]) (rest := []) ⟨hx, hb, hml, hown, hts⟩ (c_BR_putUnsigned l dC dI se seb H.size cseb 8192 j64_se_length j64_seb (by (first | (apply Int.le_antisymm <;> omega) | omega)) (by (first | (apply Int.le_antisymm <;> omega) | omega)) (by (first | (apply Int.le_antisymm <;> omega) | omega)) x14 (by (first | (apply Int.le_antisymm <;> omega) | omega))) (cwV 1 hts (gV kM_CO_218 kV_BR_putUnsigned kS_BR_putUnsigned kI_BR kC_BR_putUnsigned) rfl rfl rfl (by decide +kernel) ⟨Nat.le_of_ble_eq_true rfl, Nat.le_of_ble_eq_true rfl⟩) ⟨fun a U g mk z => by obtain ⟨z0, z1, zP, zK, zD⟩ := z; exact ⟨z0, z1, zP, va_K.moved (u := U) (U := U.calling g mk a) (Vm.Alike.refl U.vm) zK, zD⟩, va_recv hKc hPc (ci := 1) (q0 := 0) rfl rfl, fun U hU hW => ⟨rfl, by rw [hU], va_P.he hU.symm hPc, va_K.moved hW.alike hKc, hDc.weaken (fun _ _ _ _ => trivial)⟩⟩ rfl rfl hl.1 rfl (lv_room (Nat.le_of_ble_eq_true rfl)) d_CO_keepCode_111 ⟨(Nat.zero_le _), (Nat.zero_le _)⟩) hS (fun q _ h => hFc q h) hFc (fun u t H1 locs ht hvm hw hB hz1 hk1 hS => ?_)
          obtain ⟨n18, f19⟩ := u
          try dsimp only at hw
          obtain ⟨tn18, bn18⟩ := hw
          have ln18 := leb_len 5 (un x14)
          obtain ⟨hP1, hK1, hD1⟩ := hB
          replace hP1 := va_P.he ht hP1
          obtain ⟨hP, hD⟩ := va_join (wr := (wz_213 h0 pr kn lt h0_localCount pe h0_pendingCount h0_gives h0_depth h0_loopDepth to bo cs se lt clt wlt bo bob bo_length bob cbob gbob cs csb cs_length csb ccsb gcsb)) (w1 := (wz_94 se seb n18 seb cseb f19)) hP hD [6, 7] [0, 1, 2, 3, 4, 5] rfl rfl (by decide) (by decide) hk1 hFc hP1 hD1
          clear hPc hDc hKc hFc hz1 hk1 hP1 hK1 hD1
          rename Heap => H
          have hP : va_P (dC, dI) cls (wz_212 h0 pr kn lt h0_localCount pe h0_pendingCount h0_gives h0_depth h0_loopDepth to bo cs se lt clt wlt bo bob bo_length bob cbob gbob cs csb cs_length csb ccsb gcsb se seb n18 seb cseb f19) H := hP
          have hD : va_D A (wz_212 h0 pr kn lt h0_localCount pe h0_pendingCount h0_gives h0_depth h0_loopDepth to bo cs se lt clt wlt bo bob bo_length bob cbob gbob cs csb cs_length csb ccsb gcsb se seb n18 seb cseb f19) := hD
          have l114 := congrArg List.length (leb_s (x := x14) (by (first | (apply Int.le_antisymm <;> omega) | omega)) (by (first | (apply Int.le_antisymm <;> omega) | omega)))
          rw [List.length_singleton] at l114
          refine lv_aload_n hx hb d_CO_keepCode_114 rfl (lv_at hl 0 rfl) ?_
          refine va_get (D := (dC, dI)) (ci := 2) (v := .ref se) (C := R_CO) (T := F_CO) (N := 13) hx hb hts i_CO hown hK hP 0 rfl rfl 12 (by decide) (hts _ kF_CO_33) (fun _ h9 => h9) rfl d_CO_keepCode_115 ?_
          refine lv_aload_n hx hb d_CO_keepCode_118 rfl (lv_at hl 0 rfl) ?_
          refine va_get (D := (dC, dI)) (ci := 2) (v := .ref lt) (C := R_CO) (T := F_CO) (N := 13) hx hb hts i_CO hown hK hP 0 rfl rfl 2 (by decide) (hts _ kF_CO_9) (fun _ h9 => h9) rfl d_CO_keepCode_119 ?_
          refine lv_iload hx hb d_CO_keepCode_122 (lv_at hl 2 rfl) ?_
          have g124 : vp_in j64_l4 50 := vp_in_iff.mpr ⟨by (first | (apply Int.le_antisymm <;> omega) | omega), by (first | (apply Int.le_antisymm <;> omega) | omega)⟩
          refine va_iald hx hb hK hP 1 0 rfl rfl g124 d_CO_keepCode_124 ?_
          refine lv_topi (fun x20 ex20 => ?_)
          have tx20 := hlq.out j64_l4.toNatClampNeg (by have := i32_clamp (x := j64_l4) (by (first | (apply Int.le_antisymm <;> omega) | omega)); (first | (apply Int.le_antisymm <;> omega) | omega))
          rw [← ex20] at tx20
          have hPc := hP.sb (wq := (wz_94 se seb n18 seb cseb f19)) [6, 7] rfl
          have hDc := hD.sb (wq := (wz_94 se seb n18 seb cseb f19)) [6, 7] (by decide) rfl
          have hKc := hK.sb (tyq := [(cseb, .byte)]) [3] rfl
          have hFc := va_free (wc := (wz_94 se seb n18 seb cseb f19)) hD hS hA [6, 7] rfl
          refine va_callv (va_runV (As := [.int x20]) (rest := []) ⟨hx, hb, hml, hown, hts⟩ (c_BR_put l dC dI se seb H.size cseb 8192 n18 f19 (by (first | (apply Int.le_antisymm <;> omega) | omega)) (by (first | (apply Int.le_antisymm <;> omega) | omega)) (by (first | (apply Int.le_antisymm <;> omega) | omega)) x20) (cwV 1 hts (gV kM_CO_76 kV_BR_put kS_BR_put kI_BR kC_BR_put) rfl rfl rfl (by decide +kernel) ⟨Nat.le_of_ble_eq_true rfl, Nat.le_of_ble_eq_true rfl⟩) ⟨fun a U g mk z => by obtain ⟨z0, z1, zP, zK, zD⟩ := z; exact ⟨z0, z1, zP, va_K.moved (u := U) (U := U.calling g mk a) (Vm.Alike.refl U.vm) zK, zD⟩, va_recv hKc hPc (ci := 1) (q0 := 0) rfl rfl, fun U hU hW => ⟨rfl, by rw [hU], va_P.he hU.symm hPc, va_K.moved hW.alike hKc, hDc.weaken (fun _ _ _ _ => trivial)⟩⟩ rfl rfl hl.1 rfl (lv_room (Nat.le_of_ble_eq_true rfl)) d_CO_keepCode_125 ⟨(Nat.zero_le _), (Nat.zero_le _)⟩) hS (fun q _ h => hFc q h) hFc (fun u t H1 locs ht hvm hw hB hz1 hk1 hS => ?_)
          obtain ⟨n22, f23⟩ := u
          try dsimp only at hw
          have tn22 := br_put_in (by (first | (apply Int.le_antisymm <;> omega) | omega)) (by (first | (apply Int.le_antisymm <;> omega) | omega)) (by (first | (apply Int.le_antisymm <;> omega) | omega)) hw
          have bn22 := br_put_bl (by (first | (apply Int.le_antisymm <;> omega) | omega)) (by (first | (apply Int.le_antisymm <;> omega) | omega)) (by (first | (apply Int.le_antisymm <;> omega) | omega)) hw
          obtain ⟨hP1, hK1, hD1⟩ := hB
          replace hP1 := va_P.he ht hP1
          obtain ⟨hP, hD⟩ := va_join (wr := (wz_213 h0 pr kn lt h0_localCount pe h0_pendingCount h0_gives h0_depth h0_loopDepth to bo cs se lt clt wlt bo bob bo_length bob cbob gbob cs csb cs_length csb ccsb gcsb)) (w1 := (wz_94 se seb n22 seb cseb f23)) hP hD [6, 7] [0, 1, 2, 3, 4, 5] rfl rfl (by decide) (by decide) hk1 hFc hP1 hD1
          clear hPc hDc hKc hFc hz1 hk1 hP1 hK1 hD1
          rename Heap => H
          have hP : va_P (dC, dI) cls (wz_212 h0 pr kn lt h0_localCount pe h0_pendingCount h0_gives h0_depth h0_loopDepth to bo cs se lt clt wlt bo bob bo_length bob cbob gbob cs csb cs_length csb ccsb gcsb se seb n22 seb cseb f23) H := hP
          have hD : va_D A (wz_212 h0 pr kn lt h0_localCount pe h0_pendingCount h0_gives h0_depth h0_loopDepth to bo cs se lt clt wlt bo bob bo_length bob cbob gbob cs csb cs_length csb ccsb gcsb se seb n22 seb cseb f23) := hD
          refine lv_iconst (v := 0) hx hb d_CO_keepCode_128 (by decide) ?_
          refine lv_istore_n (lv' := [(3, .int 0), (0, .ref h0), (4, .int j64_l4)]) hx hb d_CO_keepCode_129 rfl hl (by decide) rfl (fun ls hl => ?_)
          exact jn130 (0, f23, n22) _ _ _ ⟨by (try dsimp only) <;> (first | (apply Int.le_antisymm <;> omega) | omega), by (try dsimp only) <;> (first | (apply Int.le_antisymm <;> omega) | omega), ⟨R9 ++ [(x14.toInt.toNat, x20.toInt.toNat)], (by have w9 := rI_end (t := x20.toInt.toNat) r9 (by (first | (apply Int.le_antisymm <;> omega) | omega)) (by (first | (apply Int.le_antisymm <;> omega) | omega)) y106 (by (first | (apply Int.le_antisymm <;> omega) | omega)); rw [show j64_l3.toInt.toNat + 1 = x14.toInt.toNat from by (first | (apply Int.le_antisymm <;> omega) | omega)] at w9; exact w9), by rw [bn22 (by (first | (apply Int.le_antisymm <;> omega) | omega)), bn18, e9, leb_s (by (first | (apply Int.le_antisymm <;> omega) | omega)) (by (first | (apply Int.le_antisymm <;> omega) | omega)), bn_s (by (first | (apply Int.le_antisymm <;> omega) | omega)) (by (first | (apply Int.le_antisymm <;> omega) | omega)), rb_app, List.append_assoc, List.append_assoc]; rfl, by have := congrArg List.length (leb_s (x := x14) (by (first | (apply Int.le_antisymm <;> omega) | omega)) (by (first | (apply Int.le_antisymm <;> omega) | omega))); rw [List.length_singleton] at this; rw [List.length_append, List.length_singleton]; (first | (apply Int.le_antisymm <;> omega) | omega)⟩, hP, hD, hS, lv_sub hl [1, 0, 2] rfl⟩
        · skip
          refine lv_icmp_eq (tgt := 106) hx hb d_CO_keepCode_84 (by decide) (fun c84 => ?_) (fun c84 => ?_)
          · have q84 := eqI c84
            exact jn106 () _ _ _ ⟨Or.inl (by (first | (apply Int.le_antisymm <;> omega) | omega)), hP, hD, hS, lv_sub hl [1, 0, 2] rfl⟩
          · have q84 := neI c84
            refine lv_aload_n hx hb d_CO_keepCode_87 rfl (lv_at hl 1 rfl) ?_
            refine va_get (D := (dC, dI)) (ci := 2) (v := .ref lt) (C := R_CO) (T := F_CO) (N := 13) hx hb hts i_CO hown hK hP 0 rfl rfl 2 (by decide) (hts _ kF_CO_9) (fun _ h9 => h9) rfl d_CO_keepCode_88 ?_
            refine lv_iload hx hb d_CO_keepCode_91 (lv_at hl 2 rfl) ?_
            refine lv_iconst (v := 1) hx hb d_CO_keepCode_93 (by decide) ?_
            refine lv_iadd hx hb d_CO_keepCode_94 ?_
            refine lv_topi (fun x24 ex24 => ?_)
            have tx24 : x24.toInt = j64_l4.toInt + 1 := by have z := i32_add ex24 (by (first | (apply Int.le_antisymm <;> omega) | omega)) (by (first | (apply Int.le_antisymm <;> omega) | omega)); first | exact z | (first | (apply Int.le_antisymm <;> omega) | omega)
            have g95 : vp_in x24 50 := vp_in_iff.mpr ⟨by (first | (apply Int.le_antisymm <;> omega) | omega), by (first | (apply Int.le_antisymm <;> omega) | omega)⟩
            refine va_iald hx hb hK hP 1 0 rfl rfl g95 d_CO_keepCode_95 ?_
            refine lv_topi (fun x25 ex25 => ?_)
            refine lv_aload_n hx hb d_CO_keepCode_96 rfl (lv_at hl 1 rfl) ?_
            refine va_get (D := (dC, dI)) (ci := 2) (v := .ref lt) (C := R_CO) (T := F_CO) (N := 13) hx hb hts i_CO hown hK hP 0 rfl rfl 2 (by decide) (hts _ kF_CO_9) (fun _ h9 => h9) rfl d_CO_keepCode_97 ?_
            refine lv_iload hx hb d_CO_keepCode_100 (lv_at hl 2 rfl) ?_
            have g102 : vp_in j64_l4 50 := vp_in_iff.mpr ⟨by (first | (apply Int.le_antisymm <;> omega) | omega), by (first | (apply Int.le_antisymm <;> omega) | omega)⟩
            refine va_iald hx hb hK hP 1 0 rfl rfl g102 d_CO_keepCode_102 ?_
            refine lv_topi (fun x26 ex26 => ?_)
            refine lv_icmp_eq (tgt := 130) hx hb d_CO_keepCode_103 (by decide) (fun c103 => ?_) (fun c103 => ?_)
            · have q103 := eqI c103
              exact jn130 (x14, j64_seb, j64_se_length) _ _ _ ⟨b_j64_se_length, by (try dsimp only) <;> (first | (apply Int.le_antisymm <;> omega) | omega), ⟨R9, (by rw [show x14.toInt.toNat = j64_l3.toInt.toNat + 1 from by (first | (apply Int.le_antisymm <;> omega) | omega)]; exact rI_on r9 (by (first | (apply Int.le_antisymm <;> omega) | omega)) (by rw [← show x24.toNatClampNeg = p0.toInt.toNat + ((j64_l4.toInt - p0.toInt).toNat + 1) from by have := i32_clamp (x := x24) (by (first | (apply Int.le_antisymm <;> omega) | omega)); (first | (apply Int.le_antisymm <;> omega) | omega), ← show j64_l4.toNatClampNeg = p0.toInt.toNat + (j64_l4.toInt - p0.toInt).toNat from by have := i32_clamp (x := j64_l4) (by (first | (apply Int.le_antisymm <;> omega) | omega)); (first | (apply Int.le_antisymm <;> omega) | omega), ← ex25, ← ex26]; exact Int32.toInt_inj.mp (by (first | (apply Int.le_antisymm <;> omega) | omega)))), e9, n9⟩, hP, hD, hS, lv_sub hl [1, 0, 2] rfl⟩
            · have q103 := neI c103
              exact jn106 () _ _ _ ⟨Or.inr (by rw [← show x24.toNatClampNeg = p0.toInt.toNat + ((j64_l4.toInt - p0.toInt).toNat + 1) from by have := i32_clamp (x := x24) (by (first | (apply Int.le_antisymm <;> omega) | omega)); (first | (apply Int.le_antisymm <;> omega) | omega), ← show j64_l4.toNatClampNeg = p0.toInt.toNat + (j64_l4.toInt - p0.toInt).toNat from by have := i32_clamp (x := j64_l4) (by (first | (apply Int.le_antisymm <;> omega) | omega)); (first | (apply Int.le_antisymm <;> omega) | omega), ← ex25, ← ex26]; exact fun z => q103 (congrArg Int32.toInt z)), hP, hD, hS, lv_sub hl [1, 0, 2] rfl⟩
  · have q9 := nleI c9
    have w4 := rst_le (lt := wlt) (p := p0.toInt.toNat) (j4_l3.toInt - p0.toInt).toNat
    refine lv_iload_n hx hb d_CO_keepCode_12 rfl (lv_at hl 3 rfl) ?_
    refine lv_iload_n hx hb d_CO_keepCode_13 rfl (lv_at hl 1 rfl) ?_
    refine w_cut (pc2 := 37) (σ := Int32) (fun u H locs ls => match u with | j37_l2 => (j37_l2.toInt = ((rst wlt p0.toInt.toNat (j4_l3.toInt - p0.toInt).toNat + (if (j4_l3.toInt - p0.toInt).toNat = 0 ∨ wlt (p0.toInt.toNat + (j4_l3.toInt - p0.toInt).toNat) ≠ wlt (p0.toInt.toNat + (j4_l3.toInt - p0.toInt).toNat - 1) then 1 else 0) : Nat) : Int)) ∧ va_P (dC, dI) cls (wz_212 h0 pr kn lt h0_localCount pe h0_pendingCount h0_gives h0_depth h0_loopDepth to bo cs se lt clt wlt bo bob bo_length bob cbob gbob cs csb cs_length csb ccsb gcsb se seb se_length seb cseb gseb) H ∧ va_D A (wz_212 h0 pr kn lt h0_localCount pe h0_pendingCount h0_gives h0_depth h0_loopDepth to bo cs se lt clt wlt bo bob bo_length bob cbob gbob cs csb cs_length csb ccsb gcsb se seb se_length seb cseb gseb) ∧ va_S A s.heap H locs ∧ lv_has ls 5 [(0, .ref h0), (1, .int p0), (2, .int j37_l2), (3, .int j4_l3)]) (fun u => match u with | j37_l2 => []) ?_ (fun jn37 => ?_)
    · intro u H locs ls hI
      obtain ⟨j37_l2, rfl⟩ : ∃ z, z = u := ⟨_, rfl⟩
      obtain ⟨y37, hP, hD, hS, hl⟩ := hI
      have i37 : (if (j4_l3.toInt - p0.toInt).toNat = 0 ∨ wlt (p0.toInt.toNat + (j4_l3.toInt - p0.toInt).toNat) ≠ wlt (p0.toInt.toNat + (j4_l3.toInt - p0.toInt).toNat - 1) then 1 else 0) ≤ 1 := by split <;> (first | (apply Int.le_antisymm <;> omega) | omega)
      obtain ⟨x27, ex27⟩ : ∃ z : Int32, z = j4_l3 + 1 := ⟨_, rfl⟩
      have tx27 : x27.toInt = j4_l3.toInt + 1 := by have z := i32_add ex27 (by (first | (apply Int.le_antisymm <;> omega) | omega)) (by (first | (apply Int.le_antisymm <;> omega) | omega)); first | exact z | (first | (apply Int.le_antisymm <;> omega) | omega)
      refine lv_iinc (v := x27) (lv' := [(3, .int x27), (0, .ref h0), (1, .int p0), (2, .int j37_l2)]) hx hb d_CO_keepCode_37 hl (k := 3) rfl (by rw [ex27]; rfl) (by decide) rfl (fun ls hl => ?_)
      refine lv_goto (tgt := 4) hx hb d_CO_keepCode_40 (by decide) ?_
      exact ih4 (j37_l2, x27) _ _ _ (by show (h0_localCount.toInt - x27.toInt).toNat < N4; (first | (apply Int.le_antisymm <;> omega) | omega)) ⟨by (try dsimp only) <;> (first | (apply Int.le_antisymm <;> omega) | omega), (by rw [show (x27.toInt - p0.toInt).toNat = (j4_l3.toInt - p0.toInt).toNat + 1 from by (first | (apply Int.le_antisymm <;> omega) | omega)]; show j37_l2.toInt = ((rst wlt p0.toInt.toNat (j4_l3.toInt - p0.toInt).toNat + _ : Nat) : Int); exact y37), hP, hD, hS, lv_sub hl [1, 2, 3, 0] rfl⟩
    · skip
      refine w_cut (pc2 := 34) (σ := Unit) (fun u H locs ls => match u with | _ => ((j4_l3.toInt - p0.toInt).toNat = 0 ∨ wlt (p0.toInt.toNat + (j4_l3.toInt - p0.toInt).toNat) ≠ wlt (p0.toInt.toNat + (j4_l3.toInt - p0.toInt).toNat - 1)) ∧ va_P (dC, dI) cls (wz_212 h0 pr kn lt h0_localCount pe h0_pendingCount h0_gives h0_depth h0_loopDepth to bo cs se lt clt wlt bo bob bo_length bob cbob gbob cs csb cs_length csb ccsb gcsb se seb se_length seb cseb gseb) H ∧ va_D A (wz_212 h0 pr kn lt h0_localCount pe h0_pendingCount h0_gives h0_depth h0_loopDepth to bo cs se lt clt wlt bo bob bo_length bob cbob gbob cs csb cs_length csb ccsb gcsb se seb se_length seb cseb gseb) ∧ va_S A s.heap H locs ∧ lv_has ls 5 [(0, .ref h0), (1, .int p0), (2, .int j4_l2), (3, .int j4_l3)]) (fun u => match u with | _ => []) ?_ (fun jn34 => ?_)
      · intro u H locs ls hI
        obtain ⟨y34, hP, hD, hS, hl⟩ := hI
        obtain ⟨x28, ex28⟩ : ∃ z : Int32, z = j4_l2 + 1 := ⟨_, rfl⟩
        have tx28 : x28.toInt = j4_l2.toInt + 1 := by have z := i32_add ex28 (by (first | (apply Int.le_antisymm <;> omega) | omega)) (by (first | (apply Int.le_antisymm <;> omega) | omega)); first | exact z | (first | (apply Int.le_antisymm <;> omega) | omega)
        refine lv_iinc (v := x28) (lv' := [(2, .int x28), (0, .ref h0), (1, .int p0), (3, .int j4_l3)]) hx hb d_CO_keepCode_34 hl (k := 2) rfl (by rw [ex28]; rfl) (by decide) rfl (fun ls hl => ?_)
        exact jn37 x28 _ _ _ ⟨(by rw [if_pos y34]; (first | (apply Int.le_antisymm <;> omega) | omega)), hP, hD, hS, lv_sub hl [1, 2, 0, 3] rfl⟩
      · skip
        refine lv_icmp_eq (tgt := 34) hx hb d_CO_keepCode_14 (by decide) (fun c14 => ?_) (fun c14 => ?_)
        · have q14 := eqI c14
          exact jn34 () _ _ _ ⟨Or.inl (by (first | (apply Int.le_antisymm <;> omega) | omega)), hP, hD, hS, lv_sub hl [0, 1, 2, 3] rfl⟩
        · have q14 := neI c14
          refine lv_aload_n hx hb d_CO_keepCode_17 rfl (lv_at hl 0 rfl) ?_
          refine va_get (D := (dC, dI)) (ci := 2) (v := .ref lt) (C := R_CO) (T := F_CO) (N := 13) hx hb hts i_CO hown hK hP 0 rfl rfl 2 (by decide) (hts _ kF_CO_9) (fun _ h9 => h9) rfl d_CO_keepCode_18 ?_
          refine lv_iload_n hx hb d_CO_keepCode_21 rfl (lv_at hl 3 rfl) ?_
          have g22 : vp_in j4_l3 50 := vp_in_iff.mpr ⟨by (first | (apply Int.le_antisymm <;> omega) | omega), by (first | (apply Int.le_antisymm <;> omega) | omega)⟩
          refine va_iald hx hb hK hP 1 0 rfl rfl g22 d_CO_keepCode_22 ?_
          refine lv_topi (fun x29 ex29 => ?_)
          refine lv_aload_n hx hb d_CO_keepCode_23 rfl (lv_at hl 0 rfl) ?_
          refine va_get (D := (dC, dI)) (ci := 2) (v := .ref lt) (C := R_CO) (T := F_CO) (N := 13) hx hb hts i_CO hown hK hP 0 rfl rfl 2 (by decide) (hts _ kF_CO_9) (fun _ h9 => h9) rfl d_CO_keepCode_24 ?_
          refine lv_iload_n hx hb d_CO_keepCode_27 rfl (lv_at hl 3 rfl) ?_
          refine lv_iconst (v := 1) hx hb d_CO_keepCode_28 (by decide) ?_
          refine lv_isub hx hb d_CO_keepCode_29 ?_
          refine lv_topi (fun x30 ex30 => ?_)
          have tx30 : x30.toInt = j4_l3.toInt - 1 := by have z := i32_sub ex30 (by (first | (apply Int.le_antisymm <;> omega) | omega)) (by (first | (apply Int.le_antisymm <;> omega) | omega)); first | exact z | (first | (apply Int.le_antisymm <;> omega) | omega)
          have g30 : vp_in x30 50 := vp_in_iff.mpr ⟨by (first | (apply Int.le_antisymm <;> omega) | omega), by (first | (apply Int.le_antisymm <;> omega) | omega)⟩
          refine va_iald hx hb hK hP 1 0 rfl rfl g30 d_CO_keepCode_30 ?_
          refine lv_topi (fun x31 ex31 => ?_)
          refine lv_icmp_eq (tgt := 37) hx hb d_CO_keepCode_31 (by decide) (fun c31 => ?_) (fun c31 => ?_)
          · have q31 := eqI c31
            exact jn37 j4_l2 _ _ _ ⟨(by rw [if_neg (fun z => by rcases z with z | z; (first | (apply Int.le_antisymm <;> omega) | omega); (apply z; rw [← show x30.toNatClampNeg = p0.toInt.toNat + (j4_l3.toInt - p0.toInt).toNat - 1 from by have := i32_clamp (x := x30) (by (first | (apply Int.le_antisymm <;> omega) | omega)); (first | (apply Int.le_antisymm <;> omega) | omega), ← show j4_l3.toNatClampNeg = p0.toInt.toNat + (j4_l3.toInt - p0.toInt).toNat from by have := i32_clamp (x := j4_l3) (by (first | (apply Int.le_antisymm <;> omega) | omega)); (first | (apply Int.le_antisymm <;> omega) | omega), ← ex29, ← ex31]; exact Int32.toInt_inj.mp (by (first | (apply Int.le_antisymm <;> omega) | omega))))]; (first | (apply Int.le_antisymm <;> omega) | omega)), hP, hD, hS, lv_sub hl [0, 1, 2, 3] rfl⟩
          · have q31 := neI c31
            exact jn34 () _ _ _ ⟨Or.inr (by rw [← show x30.toNatClampNeg = p0.toInt.toNat + (j4_l3.toInt - p0.toInt).toNat - 1 from by have := i32_clamp (x := x30) (by (first | (apply Int.le_antisymm <;> omega) | omega)); (first | (apply Int.le_antisymm <;> omega) | omega), ← show j4_l3.toNatClampNeg = p0.toInt.toNat + (j4_l3.toInt - p0.toInt).toNat from by have := i32_clamp (x := j4_l3) (by (first | (apply Int.le_antisymm <;> omega) | omega)); (first | (apply Int.le_antisymm <;> omega) | omega), ← ex29, ← ex31]; exact fun z => q31 (congrArg Int32.toInt z)), hP, hD, hS, lv_sub hl [0, 1, 2, 3] rfl⟩
end q_77

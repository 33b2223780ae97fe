/-! Coder: what opens and closes -/
def gvF (t : Nat → Int32) : Nat → Int := fun f => ga (t f).toInt
def tkF (p : Nat → Int32) : Nat → Int := fun f => (p (f + 1)).toInt - (p f).toInt
theorem sleb_z : ∀ (z : Nat) (k : Nat) (v : Int), 0 ≤ v → 1 ≤ z → v < 10 ^ z → (sleb k v).length ≤ z := by
  intro z
  induction z with
  | zero => intro k v _ h _; omega
  | succ z ih =>
    intro k v h0 _ hv
    cases k with
    | zero => simp [sleb]
    | succ k =>
      by_cases q : v < -64 ∨ 63 < v
      · rw [sleb_go q, List.length_cons]
        have hz : 1 ≤ z := by
          cases z with
          | zero => exfalso; rw [show (10 : Int) ^ (0 + 1) = 10 from rfl] at hv; omega
          | succ z => omega
        have := ih k (v / 128) (by omega) hz (by rw [Int.pow_succ] at hv; omega)
        omega
      · rw [sleb_end (Or.inr (by omega)), List.length_singleton]
        omega
theorem sleb_t {g : Nat} {z v : Int} (h : tkT g z v) (hg : g = 3 ∨ g = 4) : ((sleb 10 v).length : Int) ≤ z := by
  obtain ⟨h1, -, h3, h4, -⟩ := h
  have hz := h1 (by omega) (by omega)
  unfold pt at *
  rcases hg with rfl | rfl
  · have := h3 rfl
    have := sleb_z z.toNat 10 v (by omega) (by omega) (by omega)
    omega
  · have w := h4 rfl
    have := sleb_z (z - 1).toNat 10 v (by omega) (by omega) (by omega)
    omega
theorem pl_s {pe : Nat → Int32} {n m : Nat} (h : n = m + 1) : pl pe n = (pe m).toInt :: pl pe m := by
  subst h
  rfl
theorem cJ_pos {x : Nat} {T : List Nat} {pe : Nat → Int32} {n : Nat} {K D L b : Int} (H : cJ (x :: T) (pl pe n) K D L b) (h : x ≠ 5 ∧ x ≠ 6) : 1 ≤ n := by
  cases n with
  | succ n => omega
  | zero =>
    exfalso
    rcases x with _ | _ | _ | _ | _ | _ | _ | _ | _ | x
    all_goals first
      | exact absurd rfl h.1
      | exact absurd rfl h.2
      | (obtain ⟨t, Q, e, -⟩ := H; cases e)
theorem sI_0 {k : Int32} {g : Nat} {z : Int32} {v : Int64} {c : Int} {S S2 : List Nat} (h : sS k g z v c S S2) (e : k.toInt = 0) : (g = 3 ∨ g = 4) ∧ tkT g z.toInt v.toInt ∧ c = 5 + 5 * z.toInt ∧ S2 = 0 :: S := by
  unfold sS at h
  have h := h.2
  rw [e] at h
  exact h
theorem sI_1 {k : Int32} {g : Nat} {z : Int32} {v : Int64} {c : Int} {S S2 : List Nat} (h : sS k g z v c S S2) (e : k.toInt = 1) : g = 2 ∧ (1 ≤ z.toInt ∧ z.toInt ≤ 20) ∧ c = 10 ∧ S2 = 0 :: S := by
  unfold sS at h
  have h := h.2
  rw [e] at h
  exact h
theorem sI_2 {k : Int32} {g : Nat} {z : Int32} {v : Int64} {c : Int} {S S2 : List Nat} (h : sS k g z v c S S2) (e : k.toInt = 2) : ∃ T, S = 0 :: T ∧ ((g = 36 ∧ c = 25 ∧ S2 = 2 :: T) ∨ (g = 37 ∧ c = 10 ∧ S2 = 3 :: T)) := by
  unfold sS at h
  have h := h.2
  rw [e] at h
  exact h
theorem sI_3 {k : Int32} {g : Nat} {z : Int32} {v : Int64} {c : Int} {S S2 : List Nat} (h : sS k g z v c S S2) (e : k.toInt = 3) : ∃ T, S2 = 0 :: T ∧ ((g = 36 ∧ c = 24 ∧ S = 0 :: 2 :: T) ∨ (g = 37 ∧ c = 40 ∧ S = 0 :: 3 :: T) ∨ ((38 ≤ g ∧ g < 55) ∧ c = 10 ∧ S = 0 :: 0 :: T)) := by
  unfold sS at h
  have h := h.2
  rw [e] at h
  exact h
theorem sI_4 {k : Int32} {g : Nat} {z : Int32} {v : Int64} {c : Int} {S S2 : List Nat} (h : sS k g z v c S S2) (e : k.toInt = 4) : c = 10 ∧ S2 = 1 :: S := by
  unfold sS at h
  have h := h.2
  rw [e] at h
  exact h
theorem sI_5 {k : Int32} {g : Nat} {z : Int32} {v : Int64} {c : Int} {S S2 : List Nat} (h : sS k g z v c S S2) (e : k.toInt = 5) : ∃ T, S2 = 0 :: T ∧ ((g = 51 ∧ c = 10 ∧ S = 0 :: 1 :: T) ∨ ((g = 34 ∨ g = 35) ∧ c = 16 ∧ S = 0 :: T)) := by
  unfold sS at h
  have h := h.2
  rw [e] at h
  exact h
theorem sI_6 {k : Int32} {g : Nat} {z : Int32} {v : Int64} {c : Int} {S S2 : List Nat} (h : sS k g z v c S S2) (e : k.toInt = 6) : (g = 14 ∨ g = 15) ∧ c = 10 ∧ ∃ T, S = 0 :: T ∧ S2 = 0 :: T := by
  unfold sS at h
  have h := h.2
  rw [e] at h
  exact h
theorem sI_7 {k : Int32} {g : Nat} {z : Int32} {v : Int64} {c : Int} {S S2 : List Nat} (h : sS k g z v c S S2) (e : k.toInt = 7) : ∃ (T : List Nat) (n : Nat), v.toInt = n ∧ (n : Int) ≤ 8 ∧ S = List.replicate n 0 ++ T ∧ S2 = 0 :: T ∧ ((g = 2 ∧ (1 ≤ z.toInt ∧ z.toInt ≤ 20) ∧ c = 10) ∨ ((17 ≤ g ∧ g ≤ 25) ∧ c = 15)) := by
  unfold sS at h
  have h := h.2
  rw [e] at h
  exact h
theorem sI_8 {k : Int32} {g : Nat} {z : Int32} {v : Int64} {c : Int} {S S2 : List Nat} (h : sS k g z v c S S2) (e : k.toInt = 8) : (g = 14 ∨ g = 15) ∧ (1 ≤ z.toInt ∧ z.toInt ≤ 20) ∧ (0 ≤ v.toInt ∧ v.toInt ≤ 2000) ∧ c = 20 ∧ S = 0 :: S2 := by
  unfold sS at h
  have h := h.2
  rw [e] at h
  exact h
theorem sI_9 {k : Int32} {g : Nat} {z : Int32} {v : Int64} {c : Int} {S S2 : List Nat} (h : sS k g z v c S S2) (e : k.toInt = 9) : g = 2 ∧ (1 ≤ z.toInt ∧ z.toInt ≤ 20) ∧ c = 10 ∧ S = 0 :: S2 := by
  unfold sS at h
  have h := h.2
  rw [e] at h
  exact h
theorem sI_10 {k : Int32} {g : Nat} {z : Int32} {v : Int64} {c : Int} {S S2 : List Nat} (h : sS k g z v c S S2) (e : k.toInt = 10) : c = 10 ∧ S = 0 :: S2 := by
  unfold sS at h
  have h := h.2
  rw [e] at h
  exact h
theorem sI_11 {k : Int32} {g : Nat} {z : Int32} {v : Int64} {c : Int} {S S2 : List Nat} (h : sS k g z v c S S2) (e : k.toInt = 11) : c = 10 ∧ ((v = 0 ∧ S = S2) ∨ (v ≠ 0 ∧ S = 0 :: S2)) := by
  unfold sS at h
  have h := h.2
  rw [e] at h
  exact h
theorem sI_12 {k : Int32} {g : Nat} {z : Int32} {v : Int64} {c : Int} {S S2 : List Nat} (h : sS k g z v c S S2) (e : k.toInt = 12) : (g = 11 ∨ g = 12) ∧ c = 10 ∧ S = S2 := by
  unfold sS at h
  have h := h.2
  rw [e] at h
  exact h
theorem sI_13 {k : Int32} {g : Nat} {z : Int32} {v : Int64} {c : Int} {S S2 : List Nat} (h : sS k g z v c S S2) (e : k.toInt = 13) : c = 10 ∧ ∃ T, S = 0 :: T ∧ S2 = 5 :: T := by
  unfold sS at h
  have h := h.2
  rw [e] at h
  exact h
theorem sI_14 {k : Int32} {g : Nat} {z : Int32} {v : Int64} {c : Int} {S S2 : List Nat} (h : sS k g z v c S S2) (e : k.toInt = 14) : c = 10 ∧ ∃ T, S = 5 :: T ∧ S2 = 6 :: T := by
  unfold sS at h
  have h := h.2
  rw [e] at h
  exact h
theorem sI_15 {k : Int32} {g : Nat} {z : Int32} {v : Int64} {c : Int} {S S2 : List Nat} (h : sS k g z v c S S2) (e : k.toInt = 15) : c = 10 ∧ (S = 5 :: S2 ∨ S = 6 :: S2) := by
  unfold sS at h
  have h := h.2
  rw [e] at h
  exact h
theorem sI_16 {k : Int32} {g : Nat} {z : Int32} {v : Int64} {c : Int} {S S2 : List Nat} (h : sS k g z v c S S2) (e : k.toInt = 16) : c = 20 ∧ S2 = 7 :: S := by
  unfold sS at h
  have h := h.2
  rw [e] at h
  exact h
theorem sI_17 {k : Int32} {g : Nat} {z : Int32} {v : Int64} {c : Int} {S S2 : List Nat} (h : sS k g z v c S S2) (e : k.toInt = 17) : c = 16 ∧ ∃ T, S = 0 :: 7 :: T ∧ S2 = 8 :: T := by
  unfold sS at h
  have h := h.2
  rw [e] at h
  exact h
theorem sI_18 {k : Int32} {g : Nat} {z : Int32} {v : Int64} {c : Int} {S S2 : List Nat} (h : sS k g z v c S S2) (e : k.toInt = 18) : c = 24 ∧ S = 8 :: S2 := by
  unfold sS at h
  have h := h.2
  rw [e] at h
  exact h
theorem sI_19 {k : Int32} {g : Nat} {z : Int32} {v : Int64} {c : Int} {S S2 : List Nat} (h : sS k g z v c S S2) (e : k.toInt = 19) : c = 10 ∧ S2 = 4 :: S := by
  unfold sS at h
  have h := h.2
  rw [e] at h
  exact h
theorem sI_20 {k : Int32} {g : Nat} {z : Int32} {v : Int64} {c : Int} {S S2 : List Nat} (h : sS k g z v c S S2) (e : k.toInt = 20) : c = 10 ∧ S = 4 :: S2 := by
  unfold sS at h
  have h := h.2
  rw [e] at h
  exact h
theorem sS_rng {k : Int32} {g : Nat} {z : Int32} {v : Int64} {c : Int} {S S2 : List Nat} (h : sS k g z v c S S2) : 0 ≤ k.toInt ∧ k.toInt ≤ 20 := by
  unfold sS at h
  refine ⟨h.1, ?_⟩
  have h := h.2
  split at h <;> first | omega | exact h.elim
abbrev b_CO_codeBranching : ByteArray := prog_4_method_16_code
def y_CO_codeBranching : MethodName := ⟨R_CO, "codeBranching", "(I)V"⟩
abbrev w_CO_codeBranching : List Cond := .code y_CO_codeBranching b_CO_codeBranching 2 none :: lw_g
theorem kC_CO_codeBranching : Cond.code y_CO_codeBranching b_CO_codeBranching 2 none ∈ lw_g := in_g 1200 (by decide +kernel) rfl
theorem d_CO_codeBranching_0 : decode b_CO_codeBranching 0 = .ok (.aload_n 0, 1) := by decide +kernel
theorem d_CO_codeBranching_1 : decode b_CO_codeBranching 1 = .ok (.getfield 36, 3) := by decide +kernel
theorem d_CO_codeBranching_4 : decode b_CO_codeBranching 4 = .ok (.getfield 143, 3) := by decide +kernel
theorem d_CO_codeBranching_7 : decode b_CO_codeBranching 7 = .ok (.iload_n 1, 1) := by decide +kernel
theorem d_CO_codeBranching_8 : decode b_CO_codeBranching 8 = .ok (.iaload, 1) := by decide +kernel
theorem d_CO_codeBranching_9 : decode b_CO_codeBranching 9 = .ok (.tableswitch 189 13 19 #[43, 86, 97, 119, 126, 168, 175], 43) := by decide +kernel
theorem d_CO_codeBranching_52 : decode b_CO_codeBranching 52 = .ok (.aload_n 0, 1) := by decide +kernel
theorem d_CO_codeBranching_53 : decode b_CO_codeBranching 53 = .ok (.aload_n 0, 1) := by decide +kernel
theorem d_CO_codeBranching_54 : decode b_CO_codeBranching 54 = .ok (.getfield 36, 3) := by decide +kernel
theorem d_CO_codeBranching_57 : decode b_CO_codeBranching 57 = .ok (.getfield 193, 3) := by decide +kernel
theorem d_CO_codeBranching_60 : decode b_CO_codeBranching 60 = .ok (.iload_n 1, 1) := by decide +kernel
theorem d_CO_codeBranching_61 : decode b_CO_codeBranching 61 = .ok (.iaload, 1) := by decide +kernel
theorem d_CO_codeBranching_62 : decode b_CO_codeBranching 62 = .ok (.invokevirtual 279, 3) := by decide +kernel
theorem d_CO_codeBranching_65 : decode b_CO_codeBranching 65 = .ok (.aload_n 0, 1) := by decide +kernel
theorem d_CO_codeBranching_66 : decode b_CO_codeBranching 66 = .ok (.getfield 26, 3) := by decide +kernel
theorem d_CO_codeBranching_69 : decode b_CO_codeBranching 69 = .ok (.iconst 4, 1) := by decide +kernel
theorem d_CO_codeBranching_70 : decode b_CO_codeBranching 70 = .ok (.invokevirtual 76, 3) := by decide +kernel
theorem d_CO_codeBranching_73 : decode b_CO_codeBranching 73 = .ok (.aload_n 0, 1) := by decide +kernel
theorem d_CO_codeBranching_74 : decode b_CO_codeBranching 74 = .ok (.getfield 26, 3) := by decide +kernel
theorem d_CO_codeBranching_77 : decode b_CO_codeBranching 77 = .ok (.bipush 64, 2) := by decide +kernel
theorem d_CO_codeBranching_79 : decode b_CO_codeBranching 79 = .ok (.invokevirtual 76, 3) := by decide +kernel
theorem d_CO_codeBranching_82 : decode b_CO_codeBranching 82 = .ok (.aload_n 0, 1) := by decide +kernel
theorem d_CO_codeBranching_83 : decode b_CO_codeBranching 83 = .ok (.dup, 1) := by decide +kernel
theorem d_CO_codeBranching_84 : decode b_CO_codeBranching 84 = .ok (.getfield 115, 3) := by decide +kernel
theorem d_CO_codeBranching_87 : decode b_CO_codeBranching 87 = .ok (.iconst 1, 1) := by decide +kernel
theorem d_CO_codeBranching_88 : decode b_CO_codeBranching 88 = .ok (.iadd, 1) := by decide +kernel
theorem d_CO_codeBranching_89 : decode b_CO_codeBranching 89 = .ok (.putfield 115, 3) := by decide +kernel
theorem d_CO_codeBranching_92 : decode b_CO_codeBranching 92 = .ok (.goto 117, 3) := by decide +kernel
theorem d_CO_codeBranching_95 : decode b_CO_codeBranching 95 = .ok (.aload_n 0, 1) := by decide +kernel
theorem d_CO_codeBranching_96 : decode b_CO_codeBranching 96 = .ok (.getfield 26, 3) := by decide +kernel
theorem d_CO_codeBranching_99 : decode b_CO_codeBranching 99 = .ok (.iconst 5, 1) := by decide +kernel
theorem d_CO_codeBranching_100 : decode b_CO_codeBranching 100 = .ok (.invokevirtual 76, 3) := by decide +kernel
theorem d_CO_codeBranching_103 : decode b_CO_codeBranching 103 = .ok (.goto 106, 3) := by decide +kernel
theorem d_CO_codeBranching_106 : decode b_CO_codeBranching 106 = .ok (.aload_n 0, 1) := by decide +kernel
theorem d_CO_codeBranching_107 : decode b_CO_codeBranching 107 = .ok (.getfield 26, 3) := by decide +kernel
theorem d_CO_codeBranching_110 : decode b_CO_codeBranching 110 = .ok (.bipush 11, 2) := by decide +kernel
theorem d_CO_codeBranching_112 : decode b_CO_codeBranching 112 = .ok (.invokevirtual 76, 3) := by decide +kernel
theorem d_CO_codeBranching_115 : decode b_CO_codeBranching 115 = .ok (.aload_n 0, 1) := by decide +kernel
theorem d_CO_codeBranching_116 : decode b_CO_codeBranching 116 = .ok (.dup, 1) := by decide +kernel
theorem d_CO_codeBranching_117 : decode b_CO_codeBranching 117 = .ok (.getfield 115, 3) := by decide +kernel
theorem d_CO_codeBranching_120 : decode b_CO_codeBranching 120 = .ok (.iconst 1, 1) := by decide +kernel
theorem d_CO_codeBranching_121 : decode b_CO_codeBranching 121 = .ok (.isub, 1) := by decide +kernel
theorem d_CO_codeBranching_122 : decode b_CO_codeBranching 122 = .ok (.putfield 115, 3) := by decide +kernel
theorem d_CO_codeBranching_125 : decode b_CO_codeBranching 125 = .ok (.goto 84, 3) := by decide +kernel
theorem d_CO_codeBranching_128 : decode b_CO_codeBranching 128 = .ok (.aload_n 0, 1) := by decide +kernel
theorem d_CO_codeBranching_129 : decode b_CO_codeBranching 129 = .ok (.invokevirtual 282, 3) := by decide +kernel
theorem d_CO_codeBranching_132 : decode b_CO_codeBranching 132 = .ok (.goto 77, 3) := by decide +kernel
theorem d_CO_codeBranching_135 : decode b_CO_codeBranching 135 = .ok (.aload_n 0, 1) := by decide +kernel
theorem d_CO_codeBranching_136 : decode b_CO_codeBranching 136 = .ok (.aload_n 0, 1) := by decide +kernel
theorem d_CO_codeBranching_137 : decode b_CO_codeBranching 137 = .ok (.getfield 36, 3) := by decide +kernel
theorem d_CO_codeBranching_140 : decode b_CO_codeBranching 140 = .ok (.getfield 193, 3) := by decide +kernel
theorem d_CO_codeBranching_143 : decode b_CO_codeBranching 143 = .ok (.iload_n 1, 1) := by decide +kernel
theorem d_CO_codeBranching_144 : decode b_CO_codeBranching 144 = .ok (.iaload, 1) := by decide +kernel
theorem d_CO_codeBranching_145 : decode b_CO_codeBranching 145 = .ok (.invokevirtual 279, 3) := by decide +kernel
theorem d_CO_codeBranching_148 : decode b_CO_codeBranching 148 = .ok (.aload_n 0, 1) := by decide +kernel
theorem d_CO_codeBranching_149 : decode b_CO_codeBranching 149 = .ok (.getfield 26, 3) := by decide +kernel
theorem d_CO_codeBranching_152 : decode b_CO_codeBranching 152 = .ok (.bipush 69, 2) := by decide +kernel
theorem d_CO_codeBranching_154 : decode b_CO_codeBranching 154 = .ok (.invokevirtual 76, 3) := by decide +kernel
theorem d_CO_codeBranching_157 : decode b_CO_codeBranching 157 = .ok (.aload_n 0, 1) := by decide +kernel
theorem d_CO_codeBranching_158 : decode b_CO_codeBranching 158 = .ok (.getfield 26, 3) := by decide +kernel
theorem d_CO_codeBranching_161 : decode b_CO_codeBranching 161 = .ok (.bipush 13, 2) := by decide +kernel
theorem d_CO_codeBranching_163 : decode b_CO_codeBranching 163 = .ok (.invokevirtual 76, 3) := by decide +kernel
theorem d_CO_codeBranching_166 : decode b_CO_codeBranching 166 = .ok (.aload_n 0, 1) := by decide +kernel
theorem d_CO_codeBranching_167 : decode b_CO_codeBranching 167 = .ok (.getfield 26, 3) := by decide +kernel
theorem d_CO_codeBranching_170 : decode b_CO_codeBranching 170 = .ok (.iconst 1, 1) := by decide +kernel
theorem d_CO_codeBranching_171 : decode b_CO_codeBranching 171 = .ok (.invokevirtual 76, 3) := by decide +kernel
theorem d_CO_codeBranching_174 : decode b_CO_codeBranching 174 = .ok (.goto 35, 3) := by decide +kernel
theorem d_CO_codeBranching_177 : decode b_CO_codeBranching 177 = .ok (.aload_n 0, 1) := by decide +kernel
theorem d_CO_codeBranching_178 : decode b_CO_codeBranching 178 = .ok (.invokevirtual 285, 3) := by decide +kernel
theorem d_CO_codeBranching_181 : decode b_CO_codeBranching 181 = .ok (.goto 28, 3) := by decide +kernel
theorem d_CO_codeBranching_184 : decode b_CO_codeBranching 184 = .ok (.aload_n 0, 1) := by decide +kernel
theorem d_CO_codeBranching_185 : decode b_CO_codeBranching 185 = .ok (.aload_n 0, 1) := by decide +kernel
theorem d_CO_codeBranching_186 : decode b_CO_codeBranching 186 = .ok (.getfield 54, 3) := by decide +kernel
theorem d_CO_codeBranching_189 : decode b_CO_codeBranching 189 = .ok (.getfield 68, 3) := by decide +kernel
theorem d_CO_codeBranching_192 : decode b_CO_codeBranching 192 = .ok (.invokevirtual 183, 3) := by decide +kernel
theorem d_CO_codeBranching_195 : decode b_CO_codeBranching 195 = .ok (.goto 14, 3) := by decide +kernel
theorem d_CO_codeBranching_198 : decode b_CO_codeBranching 198 = .ok (.aload_n 0, 1) := by decide +kernel
theorem d_CO_codeBranching_199 : decode b_CO_codeBranching 199 = .ok (.getfield 54, 3) := by decide +kernel
theorem d_CO_codeBranching_202 : decode b_CO_codeBranching 202 = .ok (.aload_n 0, 1) := by decide +kernel
theorem d_CO_codeBranching_203 : decode b_CO_codeBranching 203 = .ok (.invokevirtual 224, 3) := by decide +kernel
theorem d_CO_codeBranching_206 : decode b_CO_codeBranching 206 = .ok (.putfield 68, 3) := by decide +kernel
theorem d_CO_codeBranching_209 : decode b_CO_codeBranching 209 = .ok (.return_, 1) := by decide +kernel
theorem kM_CO_279 : Cond.methodLink R_CO 279 y_CO_takeCondition ∈ lw_g := in_g 1201 (by decide +kernel) rfl
theorem kV_CO_takeCondition : Cond.instanceMethod y_CO_takeCondition ∈ lw_g := in_g 1203 (by decide +kernel) rfl
theorem kS_CO_takeCondition : Cond.selects R_CO y_CO_takeCondition y_CO_takeCondition ∈ lw_g := in_s 48 (by decide +kernel) rfl
theorem kM_CO_282 : Cond.methodLink R_CO 282 y_CO_beginLoop ∈ lw_g := in_g 1205 (by decide +kernel) rfl
theorem kV_CO_beginLoop : Cond.instanceMethod y_CO_beginLoop ∈ lw_g := in_g 1207 (by decide +kernel) rfl
theorem kS_CO_beginLoop : Cond.selects R_CO y_CO_beginLoop y_CO_beginLoop ∈ lw_g := in_s 49 (by decide +kernel) rfl
theorem kM_CO_285 : Cond.methodLink R_CO 285 y_CO_endLoop ∈ lw_g := in_g 1209 (by decide +kernel) rfl
theorem kV_CO_endLoop : Cond.instanceMethod y_CO_endLoop ∈ lw_g := in_g 1211 (by decide +kernel) rfl
theorem kS_CO_endLoop : Cond.selects R_CO y_CO_endLoop y_CO_endLoop ∈ lw_g := in_s 50 (by decide +kernel) rfl
theorem kF_CO_143 : Cond.fieldLink R_CO 143 "WaferForge$Program" "kinds" "[I" ∈ lw_g := in_g 351 (by decide +kernel) rfl
theorem kF_CO_68 : Cond.fieldLink R_CO 68 "WaferForge$Names" "length" "I" ∈ lw_g := in_g 325 (by decide +kernel) rfl
abbrev at_CO_codeBranching (dC : Nat → ClassId) (dI : Nat → Nat → Nat) (sa : Nat → Nat) (h0 pr kn lt pe to bo cs se gl fu pa pf sf pk pg pp pz pv pr_scanner_r pr_waiting_r pr_waitingPlaces_r bob tr kns knz knt knv : Nat) (cpe cbob cpk cpp : ClassId) (h0_localCount : Int32) (h0_gives : Int32) (pr_stepCount : Int32) (pr_open : Int32) (pr_twoSides : Int32) (pr_waitingCount : Int32) (gpk : Nat → Int32) (gpp : Nat → Int32) (A : Nat → Prop) (u : (Nat → Int32) × (Nat → Int32) × Int32 × Int32 × Int32 × Int32 × Int32 × Int32 × Int32) (t : State) : Prop := match u with | (gbob, gpe, bo_length, h0_depth, h0_loopDepth, h0_pendingCount, kn_length, pr_place, pr_reason) => va_P (dC, dI) cls [(h0, .inr (2, [.ref pr, .ref kn, .ref lt, .int h0_localCount, .ref pe, .int h0_pendingCount, .int h0_gives, .int h0_depth, .int h0_loopDepth, .ref to, .ref bo, .ref cs, .ref se])), (pr, .inr (6, [.ref gl, .ref fu, .ref pa, .ref pf, .ref sf, .ref pk, .ref pg, .ref pp, .ref pz, .ref pv, .int pr_reason, .int pr_place, .ref pr_scanner_r, .int pr_stepCount, .int pr_open, .int pr_twoSides, .ref pr_waiting_r, .ref pr_waitingPlaces_r, .int pr_waitingCount])), (pe, .inl (cpe, 680, .inl gpe)), (bo, .inr (1, [.ref bob, .int bo_length])), (bob, .inl (cbob, 8192, .inl gbob)), (kn, .inr (5, [.ref tr, .ref kns, .ref knz, .ref knt, .ref knv, .int kn_length])), (pk, .inl (cpk, 4100, .inl gpk)), (pp, .inl (cpp, 4100, .inl gpp))] t.heap ∧ va_K (dC, dI) cls [(cpe, .int), (cbob, .byte), (cpk, .int), (cpp, .int)] t ∧ va_D A [(h0, .inr (2, [.ref pr, .ref kn, .ref lt, .int h0_localCount, .ref pe, .int h0_pendingCount, .int h0_gives, .int h0_depth, .int h0_loopDepth, .ref to, .ref bo, .ref cs, .ref se])), (pr, .inr (6, [.ref gl, .ref fu, .ref pa, .ref pf, .ref sf, .ref pk, .ref pg, .ref pp, .ref pz, .ref pv, .int pr_reason, .int pr_place, .ref pr_scanner_r, .int pr_stepCount, .int pr_open, .int pr_twoSides, .ref pr_waiting_r, .ref pr_waitingPlaces_r, .int pr_waitingCount])), (pe, .inl (cpe, 680, .inl gpe)), (bo, .inr (1, [.ref bob, .int bo_length])), (bob, .inl (cbob, 8192, .inl gbob)), (kn, .inr (5, [.ref tr, .ref kns, .ref knz, .ref knt, .ref knv, .int kn_length])), (pk, .inl (cpk, 4100, .inl gpk)), (pp, .inl (cpp, 4100, .inl gpp))]
set_option maxHeartbeats 4000000 in
set_option maxRecDepth 100000 in
theorem c_CO_codeBranching (l : Launch) (hlt : l.stackTraces = false) (dC : Nat → ClassId) (dI : Nat → Nat → Nat) (sz : Nat) (sa : Nat → Nat) (h0 pr kn lt pe to bo cs se gl fu pa pf sf pk pg pp pz pv pr_scanner_r pr_waiting_r pr_waitingPlaces_r bob tr kns knz knt knv : Nat) (cpe cbob cpk cpp : ClassId) (h0_localCount : Int32) (h0_pendingCount : Int32) (h0_gives : Int32) (h0_depth : Int32) (h0_loopDepth : Int32) (pr_reason : Int32) (pr_place : Int32) (pr_stepCount : Int32) (pr_open : Int32) (pr_twoSides : Int32) (pr_waitingCount : Int32) (gpe : Nat → Int32) (bo_length : Int32) (gbob : Nat → Int32) (kn_length : Int32) (gpk : Nat → Int32) (gpp : Nat → Int32) (gS : List Nat) (gS2 : List Nat) (gC : Int) (gc1 : Int) (ka : Nat) (gz : Int32) (gvv : Int64) (eV : Nat → Int) (eT : Nat → Int) (efc : Int) (egc : Int)  (b_h0_localCount : 0 ≤ h0_localCount.toInt ∧ h0_localCount.toInt ≤ 50) (b_h0_pendingCount : 0 ≤ h0_pendingCount.toInt ∧ h0_pendingCount.toInt ≤ 680) (b_bo_length : 0 ≤ bo_length.toInt ∧ bo_length.toInt ≤ 8192) (b_kn_length : 0 ≤ kn_length.toInt ∧ kn_length.toInt ≤ 50) (p0 : Int32)  (hi : 0 ≤ p0.toInt ∧ p0.toInt < 4100) (hkd : 13 ≤ (gpk p0.toNatClampNeg).toInt ∧ (gpk p0.toNatClampNeg).toInt ≤ 20) (hI : bx (cI h0_localCount.toInt eV eT efc egc h0_gives.toInt gS (pl gpe h0_pendingCount.toNatClampNeg) (bl gbob bo_length.toNatClampNeg) kn_length.toInt h0_depth.toInt h0_loopDepth.toInt gC)) (hs : bx (sS (gpk p0.toNatClampNeg) ka gz gvv gc1 gS gS2)) (hlm : bx (lm gS ∧ lm gS2)) (hcc : gC + gc1 ≤ 40000) : tz_Met l y_CO_codeBranching w_CO_codeBranching ({ frames := 8, cells := 1, slots := 6, locals := 133 }) (va_Pc [.ref h0, .int p0] (fun U => U.heap.size = sz ∧ va_P (dC, dI) cls [(h0, .inr (2, [.ref pr, .ref kn, .ref lt, .int h0_localCount, .ref pe, .int h0_pendingCount, .int h0_gives, .int h0_depth, .int h0_loopDepth, .ref to, .ref bo, .ref cs, .ref se])), (pr, .inr (6, [.ref gl, .ref fu, .ref pa, .ref pf, .ref sf, .ref pk, .ref pg, .ref pp, .ref pz, .ref pv, .int pr_reason, .int pr_place, .ref pr_scanner_r, .int pr_stepCount, .int pr_open, .int pr_twoSides, .ref pr_waiting_r, .ref pr_waitingPlaces_r, .int pr_waitingCount])), (pe, .inl (cpe, 680, .inl gpe)), (bo, .inr (1, [.ref bob, .int bo_length])), (bob, .inl (cbob, 8192, .inl gbob)), (kn, .inr (5, [.ref tr, .ref kns, .ref knz, .ref knt, .ref knv, .int kn_length])), (pk, .inl (cpk, 4100, .inl gpk)), (pp, .inl (cpp, 4100, .inl gpp))] U.heap ∧ va_K (dC, dI) cls [(cpe, .int), (cbob, .byte), (cpk, .int), (cpp, .int)] U ∧ va_D (fun _ => True) [(h0, .inr (2, [.ref pr, .ref kn, .ref lt, .int h0_localCount, .ref pe, .int h0_pendingCount, .int h0_gives, .int h0_depth, .int h0_loopDepth, .ref to, .ref bo, .ref cs, .ref se])), (pr, .inr (6, [.ref gl, .ref fu, .ref pa, .ref pf, .ref sf, .ref pk, .ref pg, .ref pp, .ref pz, .ref pv, .int pr_reason, .int pr_place, .ref pr_scanner_r, .int pr_stepCount, .int pr_open, .int pr_twoSides, .ref pr_waiting_r, .ref pr_waitingPlaces_r, .int pr_waitingCount])), (pe, .inl (cpe, 680, .inl gpe)), (bo, .inr (1, [.ref bob, .int bo_length])), (bob, .inl (cbob, 8192, .inl gbob)), (kn, .inr (5, [.ref tr, .ref kns, .ref knz, .ref knt, .ref knv, .int kn_length])), (pk, .inl (cpk, 4100, .inl gpk)), (pp, .inl (cpp, 4100, .inl gpp))] ∧ sw sa (va_A [(h0, .inr (2, [.ref pr, .ref kn, .ref lt, .int h0_localCount, .ref pe, .int h0_pendingCount, .int h0_gives, .int h0_depth, .int h0_loopDepth, .ref to, .ref bo, .ref cs, .ref se])), (pr, .inr (6, [.ref gl, .ref fu, .ref pa, .ref pf, .ref sf, .ref pk, .ref pg, .ref pp, .ref pz, .ref pv, .int pr_reason, .int pr_place, .ref pr_scanner_r, .int pr_stepCount, .int pr_open, .int pr_twoSides, .ref pr_waiting_r, .ref pr_waitingPlaces_r, .int pr_waitingCount])), (pe, .inl (cpe, 680, .inl gpe)), (bo, .inr (1, [.ref bob, .int bo_length])), (bob, .inl (cbob, 8192, .inl gbob)), (kn, .inr (5, [.ref tr, .ref kns, .ref knz, .ref knt, .ref knv, .int kn_length])), (pk, .inl (cpk, 4100, .inl gpk)), (pp, .inl (cpp, 4100, .inl gpp))] sz) U U.heap)) (tq_Q (tq_v (fun (u : (Nat → Int32) × (Nat → Int32) × Int32 × Int32 × Int32 × Int32 × Int32 × Int32 × Int32) => match u with | (gbob2, gpe2, bo_length2, h0_depth2, h0_loopDepth2, h0_pendingCount2, kn_length2, pr_place2, pr_reason2) => (0 ≤ bo_length2.toInt ∧ bo_length2.toInt ≤ 8192) ∧ (0 ≤ h0_pendingCount2.toInt ∧ h0_pendingCount2.toInt ≤ 680) ∧ (0 ≤ kn_length2.toInt ∧ kn_length2.toInt ≤ 50) ∧ (cI h0_localCount.toInt eV eT efc egc h0_gives.toInt gS2 (pl gpe2 h0_pendingCount2.toNatClampNeg) (bl gbob2 bo_length2.toNatClampNeg) kn_length2.toInt h0_depth2.toInt h0_loopDepth2.toInt (gC + gc1) ∧ kn_length2.toInt ≤ kn_length.toInt)) "java/lang/UnsupportedOperationException" (fun (u : (Nat → Int32) × (Nat → Int32) × Int32 × Int32 × Int32 × Int32 × Int32 × Int32 × Int32) => match u with | (gbob2, gpe2, bo_length2, h0_depth2, h0_loopDepth2, h0_pendingCount2, kn_length2, pr_place2, pr_reason2) => (0 ≤ bo_length2.toInt ∧ bo_length2.toInt ≤ 8192) ∧ (0 ≤ h0_pendingCount2.toInt ∧ h0_pendingCount2.toInt ≤ 680) ∧ (0 ≤ kn_length2.toInt ∧ kn_length2.toInt ≤ 50))) (at_CO_codeBranching dC dI sa h0 pr kn lt pe to bo cs se gl fu pa pf sf pk pg pp pz pv pr_scanner_r pr_waiting_r pr_waitingPlaces_r bob tr kns knz knt knv cpe cbob cpk cpp h0_localCount h0_gives pr_stepCount pr_open pr_twoSides pr_waitingCount gpk gpp (va_A [(h0, .inr (2, [.ref pr, .ref kn, .ref lt, .int h0_localCount, .ref pe, .int h0_pendingCount, .int h0_gives, .int h0_depth, .int h0_loopDepth, .ref to, .ref bo, .ref cs, .ref se])), (pr, .inr (6, [.ref gl, .ref fu, .ref pa, .ref pf, .ref sf, .ref pk, .ref pg, .ref pp, .ref pz, .ref pv, .int pr_reason, .int pr_place, .ref pr_scanner_r, .int pr_stepCount, .int pr_open, .int pr_twoSides, .ref pr_waiting_r, .ref pr_waitingPlaces_r, .int pr_waitingCount])), (pe, .inl (cpe, 680, .inl gpe)), (bo, .inr (1, [.ref bob, .int bo_length])), (bob, .inl (cbob, 8192, .inl gbob)), (kn, .inr (5, [.ref tr, .ref kns, .ref knz, .ref knt, .ref knv, .int kn_length])), (pk, .inl (cpk, 4100, .inl gpk)), (pp, .inl (cpp, 4100, .inl gpp))] sz)) (va_A [(h0, .inr (2, [.ref pr, .ref kn, .ref lt, .int h0_localCount, .ref pe, .int h0_pendingCount, .int h0_gives, .int h0_depth, .int h0_loopDepth, .ref to, .ref bo, .ref cs, .ref se])), (pr, .inr (6, [.ref gl, .ref fu, .ref pa, .ref pf, .ref sf, .ref pk, .ref pg, .ref pp, .ref pz, .ref pv, .int pr_reason, .int pr_place, .ref pr_scanner_r, .int pr_stepCount, .int pr_open, .int pr_twoSides, .ref pr_waiting_r, .ref pr_waitingPlaces_r, .int pr_waitingCount])), (pe, .inl (cpe, 680, .inl gpe)), (bo, .inr (1, [.ref bob, .int bo_length])), (bob, .inl (cbob, 8192, .inl gbob)), (kn, .inr (5, [.ref tr, .ref kns, .ref knz, .ref knt, .ref knv, .int kn_length])), (pk, .inl (cpk, 4100, .inl gpk)), (pp, .inl (cpp, 4100, .inl gpp))] sz)) (tz_k 0 0 1 6) (va_A [(h0, .inr (2, [.ref pr, .ref kn, .ref lt, .int h0_localCount, .ref pe, .int h0_pendingCount, .int h0_gives, .int h0_depth, .int h0_loopDepth, .ref to, .ref bo, .ref cs, .ref se])), (pr, .inr (6, [.ref gl, .ref fu, .ref pa, .ref pf, .ref sf, .ref pk, .ref pg, .ref pp, .ref pz, .ref pv, .int pr_reason, .int pr_place, .ref pr_scanner_r, .int pr_stepCount, .int pr_open, .int pr_twoSides, .ref pr_waiting_r, .ref pr_waitingPlaces_r, .int pr_waitingCount])), (pe, .inl (cpe, 680, .inl gpe)), (bo, .inr (1, [.ref bob, .int bo_length])), (bob, .inl (cbob, 8192, .inl gbob)), (kn, .inr (5, [.ref tr, .ref kns, .ref knz, .ref knt, .ref knv, .int kn_length])), (pk, .inl (cpk, 4100, .inl gpk)), (pp, .inl (cpp, 4100, .inl gpp))] sz) := by
  refine tz_ofW (cc := b_CO_codeBranching) (maxL := 2) (ret := none) (by decide) rfl ?_
  intro p e s m args below meth c s₁ B hml hno hv
  obtain ⟨rfl, hsz, hP, hK, hD0, hSW⟩ := hv
  have hx := B.exec
  have hb := B.bytes
  have hr := B.returns
  have hts0 := atoms_spec (ws := w_CO_codeBranching) B.pre
  have hts : ∀ w ∈ lw_g, w.before _ s = true := fun w h => hts0 w (List.mem_cons_of_mem _ h)
  have hown : s.vm.findClass R_CO = some m.cls := findClass_of_methodNamed B.named
  have hlocks := B.notSynchronized
  clear hts0
  subst hsz
  have hD := hD0.self (sz := s.heap.size)
  generalize hAe : va_A [(h0, .inr (2, [.ref pr, .ref kn, .ref lt, .int h0_localCount, .ref pe, .int h0_pendingCount, .int h0_gives, .int h0_depth, .int h0_loopDepth, .ref to, .ref bo, .ref cs, .ref se])), (pr, .inr (6, [.ref gl, .ref fu, .ref pa, .ref pf, .ref sf, .ref pk, .ref pg, .ref pp, .ref pz, .ref pv, .int pr_reason, .int pr_place, .ref pr_scanner_r, .int pr_stepCount, .int pr_open, .int pr_twoSides, .ref pr_waiting_r, .ref pr_waitingPlaces_r, .int pr_waitingCount])), (pe, .inl (cpe, 680, .inl gpe)), (bo, .inr (1, [.ref bob, .int bo_length])), (bob, .inl (cbob, 8192, .inl gbob)), (kn, .inr (5, [.ref tr, .ref kns, .ref knz, .ref knt, .ref knv, .int kn_length])), (pk, .inl (cpk, 4100, .inl gpk)), (pp, .inl (cpp, 4100, .inl gpp))] s.heap.size = A at hD hSW ⊢
  have hA : ∀ q : Nat, s.heap.size ≤ q → A q := fun q h => by rw [← hAe]; exact Or.inr h
  clear hAe
  have hP : va_P (dC, dI) cls [(h0, .inr (2, [.ref pr, .ref kn, .ref lt, .int h0_localCount, .ref pe, .int h0_pendingCount, .int h0_gives, .int h0_depth, .int h0_loopDepth, .ref to, .ref bo, .ref cs, .ref se])), (pr, .inr (6, [.ref gl, .ref fu, .ref pa, .ref pf, .ref sf, .ref pk, .ref pg, .ref pp, .ref pz, .ref pv, .int pr_reason, .int pr_place, .ref pr_scanner_r, .int pr_stepCount, .int pr_open, .int pr_twoSides, .ref pr_waiting_r, .ref pr_waitingPlaces_r, .int pr_waitingCount])), (pe, .inl (cpe, 680, .inl gpe)), (bo, .inr (1, [.ref bob, .int bo_length])), (bob, .inl (cbob, 8192, .inl gbob)), (kn, .inr (5, [.ref tr, .ref kns, .ref knz, .ref knt, .ref knv, .int kn_length])), (pk, .inl (cpk, 4100, .inl gpk)), (pp, .inl (cpp, 4100, .inl gpp))] s.heap := hP
  have hl := lv_entry ([.ref h0, .int p0]) (n := 2) (Nat.le_of_ble_eq_true rfl)
  rw [lg_entry_eq]
  generalize (lg_sl ([.ref h0, .int p0]) ++ List.replicate (2 - (lg_sl ([.ref h0, .int p0])).length) Slot.unset).toArray = ls at hl ⊢
  have hl : lv_has ls 2 [(0, .ref h0), (1, .int p0)] := hl
  have k0 : (0 : Int32).toInt = 0 := by decide
  refine w_gen (A := A) hP (fun H locs hP hS => ?_)
  have k1 : (1 : Int32).toInt = 1 := by decide
  have k4 : (4 : Int32).toInt = 4 := by decide
  have k5 : (5 : Int32).toInt = 5 := by decide
  have k11 : (11 : Int32).toInt = 11 := by decide
  have k13 : (13 : Int32).toInt = 13 := by decide
  have k64 : (64 : Int32).toInt = 64 := by decide
  have k69 : (69 : Int32).toInt = 69 := by decide
  have lo_p0 := i32_lo p0
  have hi_p0 := i32_hi p0
  have jb := cJ_b gS hI.out.1
  rw [pl_len, bl_len] at jb
  have j5 := hI.out.2.1.1
  rw [bl_len] at j5
  have zc := i32_clamp (x := h0_pendingCount) (by omega)
  have zb := i32_clamp (x := bo_length) (by omega)
  have hl1 := hlm.out.1
  have hl2 := hlm.out.2
  unfold lm at hl1 hl2
  have hc10 := sS_cost hs.out
  refine lv_aload_n hx hb d_CO_codeBranching_0 rfl (lv_at hl 0 rfl) ?_
  refine va_get (D := (dC, dI)) (ci := 2) (v := .ref pr) (C := R_CO) (T := F_CO) (N := 13) hx hb hts i_CO hown hK hP 0 rfl rfl 0 (by decide) (hts _ kF_CO_36) (fun _ h9 => h9) rfl d_CO_codeBranching_1 ?_
  refine va_get (D := (dC, dI)) (ci := 6) (v := .ref pk) (C := R_PR) (T := F_PR) (N := 19) hx hb hts i_PR hown hK hP 1 rfl rfl 5 (by decide) (hts _ kF_CO_143) (fun _ h9 => h9) rfl d_CO_codeBranching_4 ?_
  refine lv_iload_n hx hb d_CO_codeBranching_7 rfl (lv_at hl 1 rfl) ?_
  have g8 : vp_in p0 4100 := vp_in_iff.mpr ⟨by omega, by omega⟩
  refine va_iald hx hb hK hP 6 2 rfl rfl g8 d_CO_codeBranching_8 ?_
  refine lv_topi (fun x1 ex1 => ?_)
  have tx1 := hkd
  rw [← ex1] at tx1
  by_cases g9_52 : x1.toInt = 13
  · have ho9 : tab_off 189 13 19 #[43, 86, 97, 119, 126, 168, 175] x1.toInt = 43 := by rw [g9_52]; rfl
    refine lv_tab (tgt := 52) hx hb d_CO_codeBranching_9 (by decide) ho9 (by decide) ?_
    clear ho9
    have h9 : (gpk p0.toNatClampNeg).toInt = 13 := by rw [← ex1]; omega
    have s9 := sI_13 hs.out h9
    obtain ⟨ec, T9, eS, eS2⟩ := s9
    have q1 := hI.out.1
    rw [eS] at q1
    have q1 := cJ_pos q1 (by decide)
    refine lv_aload_n hx hb d_CO_codeBranching_52 rfl (lv_at hl 0 rfl) ?_
    refine lv_aload_n hx hb d_CO_codeBranching_53 rfl (lv_at hl 0 rfl) ?_
    refine va_get (D := (dC, dI)) (ci := 2) (v := .ref pr) (C := R_CO) (T := F_CO) (N := 13) hx hb hts i_CO hown hK hP 0 rfl rfl 0 (by decide) (hts _ kF_CO_36) (fun _ h9 => h9) rfl d_CO_codeBranching_54 ?_
    refine va_get (D := (dC, dI)) (ci := 6) (v := .ref pp) (C := R_PR) (T := F_PR) (N := 19) hx hb hts i_PR hown hK hP 1 rfl rfl 7 (by decide) (hts _ kF_CO_193) (fun _ h9 => h9) rfl d_CO_codeBranching_57 ?_
    refine lv_iload_n hx hb d_CO_codeBranching_60 rfl (lv_at hl 1 rfl) ?_
    have g61 : vp_in p0 4100 := vp_in_iff.mpr ⟨by omega, by omega⟩
    refine va_iald hx hb hK hP 7 3 rfl rfl g61 d_CO_codeBranching_61 ?_
    refine lv_topi (fun x2 ex2 => ?_)
    have hPc := hP.sub (ws' := [(h0, .inr (2, [.ref pr, .ref kn, .ref lt, .int h0_localCount, .ref pe, .int h0_pendingCount, .int h0_gives, .int h0_depth, .int h0_loopDepth, .ref to, .ref bo, .ref cs, .ref se])), (pr, .inr (6, [.ref gl, .ref fu, .ref pa, .ref pf, .ref sf, .ref pk, .ref pg, .ref pp, .ref pz, .ref pv, .int pr_reason, .int pr_place, .ref pr_scanner_r, .int pr_stepCount, .int pr_open, .int pr_twoSides, .ref pr_waiting_r, .ref pr_waitingPlaces_r, .int pr_waitingCount])), (pe, .inl (cpe, 680, .inl gpe))]) [0, 1, 2] rfl
    have hDc := hD.sub (ws' := [(h0, .inr (2, [.ref pr, .ref kn, .ref lt, .int h0_localCount, .ref pe, .int h0_pendingCount, .int h0_gives, .int h0_depth, .int h0_loopDepth, .ref to, .ref bo, .ref cs, .ref se])), (pr, .inr (6, [.ref gl, .ref fu, .ref pa, .ref pf, .ref sf, .ref pk, .ref pg, .ref pp, .ref pz, .ref pv, .int pr_reason, .int pr_place, .ref pr_scanner_r, .int pr_stepCount, .int pr_open, .int pr_twoSides, .ref pr_waiting_r, .ref pr_waitingPlaces_r, .int pr_waitingCount])), (pe, .inl (cpe, 680, .inl gpe))]) [0, 1, 2] (by decide) rfl
    have hKc := hK.sub (tys' := [(cpe, .int)]) [0] rfl
    have hFc := va_free (wc := [(h0, .inr (2, [.ref pr, .ref kn, .ref lt, .int h0_localCount, .ref pe, .int h0_pendingCount, .int h0_gives, .int h0_depth, .int h0_loopDepth, .ref to, .ref bo, .ref cs, .ref se])), (pr, .inr (6, [.ref gl, .ref fu, .ref pa, .ref pf, .ref sf, .ref pk, .ref pg, .ref pp, .ref pz, .ref pv, .int pr_reason, .int pr_place, .ref pr_scanner_r, .int pr_stepCount, .int pr_open, .int pr_twoSides, .ref pr_waiting_r, .ref pr_waitingPlaces_r, .int pr_waitingCount])), (pe, .inl (cpe, 680, .inl gpe))]) hD hS hA [0, 1, 2] rfl
    refine tq_callv (tz_runV (As := [.int x2]) (rest := []) ⟨hx, hb, hml, hown, hts⟩ (c_CO_takeCondition l hlt dC dI H.size sa h0 pr kn lt pe to bo cs se gl fu pa pf sf pk pg pp pz pv pr_scanner_r pr_waiting_r pr_waitingPlaces_r cpe h0_localCount h0_pendingCount h0_gives h0_depth h0_loopDepth pr_reason pr_place pr_stepCount pr_open pr_twoSides pr_waitingCount gpe (b_h0_pendingCount) x2 (by omega)) (cwV 1 hts (gV kM_CO_279 kV_CO_takeCondition kS_CO_takeCondition kI_CO kC_CO_takeCondition) rfl rfl rfl (by decide +kernel) ⟨Nat.le_of_ble_eq_true rfl, Nat.le_of_ble_eq_true rfl⟩) ⟨fun a U g mk z => by obtain ⟨z0, z1, zP, zK, zD, zS⟩ := z; exact ⟨z0, z1, zP, va_K.moved (u := U) (U := U.calling g mk a) (Vm.Alike.refl U.vm) zK, zD, sw.same (u := U) (U := U.calling g mk a) rfl zS⟩, va_recv hKc hPc (ci := 2) (q0 := 0) rfl rfl, fun U hU hW => ⟨rfl, by rw [hU], by rw [hU]; exact hPc, va_K.moved hW.alike hKc, hDc.weaken (fun _ _ _ _ => trivial), hSW.call hS hFc hW hU⟩⟩ rfl rfl hl.1 rfl (lv_room (Nat.le_of_ble_eq_true rfl)) d_CO_codeBranching_62 ⟨Nat.le_of_ble_eq_true rfl, Nat.le_of_ble_eq_true rfl⟩) hS (fun q _ h => hFc q h) hFc (fun u t H1 locs ht hvm hw hB hz1 hk1 hS => ?_) (fun xx u t H1 locs ht hvm hw hXX hB hz1 hk1 hS => ?_)
    rotate_left
    · skip
      obtain ⟨n4, n5, n6⟩ := u
      try dsimp only at hw
      have bn4 := hw
      obtain ⟨hP1, hK1, hD1⟩ := hB
      rw [ht] at hP1
      obtain ⟨hP, hD⟩ := va_join (wr := [(bo, .inr (1, [.ref bob, .int bo_length])), (bob, .inl (cbob, 8192, .inl gbob)), (kn, .inr (5, [.ref tr, .ref kns, .ref knz, .ref knt, .ref knv, .int kn_length])), (pk, .inl (cpk, 4100, .inl gpk)), (pp, .inl (cpp, 4100, .inl gpp))]) (w1 := [(h0, .inr (2, [.ref pr, .ref kn, .ref lt, .int h0_localCount, .ref pe, .int n4, .int h0_gives, .int h0_depth, .int h0_loopDepth, .ref to, .ref bo, .ref cs, .ref se])), (pr, .inr (6, [.ref gl, .ref fu, .ref pa, .ref pf, .ref sf, .ref pk, .ref pg, .ref pp, .ref pz, .ref pv, .int n6, .int n5, .ref pr_scanner_r, .int pr_stepCount, .int pr_open, .int pr_twoSides, .ref pr_waiting_r, .ref pr_waitingPlaces_r, .int pr_waitingCount])), (pe, .inl (cpe, 680, .inl gpe))]) hP hD [0, 1, 2] [3, 4, 5, 6, 7] rfl rfl (by decide) (by decide) hk1 hFc hP1 hD1
      have hP : va_P (dC, dI) cls [(bo, .inr (1, [.ref bob, .int bo_length])), (bob, .inl (cbob, 8192, .inl gbob)), (kn, .inr (5, [.ref tr, .ref kns, .ref knz, .ref knt, .ref knv, .int kn_length])), (pk, .inl (cpk, 4100, .inl gpk)), (pp, .inl (cpp, 4100, .inl gpp)), (h0, .inr (2, [.ref pr, .ref kn, .ref lt, .int h0_localCount, .ref pe, .int n4, .int h0_gives, .int h0_depth, .int h0_loopDepth, .ref to, .ref bo, .ref cs, .ref se])), (pr, .inr (6, [.ref gl, .ref fu, .ref pa, .ref pf, .ref sf, .ref pk, .ref pg, .ref pp, .ref pz, .ref pv, .int n6, .int n5, .ref pr_scanner_r, .int pr_stepCount, .int pr_open, .int pr_twoSides, .ref pr_waiting_r, .ref pr_waitingPlaces_r, .int pr_waitingCount])), (pe, .inl (cpe, 680, .inl gpe))] H1 := hP
      have hD : va_D A [(bo, .inr (1, [.ref bob, .int bo_length])), (bob, .inl (cbob, 8192, .inl gbob)), (kn, .inr (5, [.ref tr, .ref kns, .ref knz, .ref knt, .ref knv, .int kn_length])), (pk, .inl (cpk, 4100, .inl gpk)), (pp, .inl (cpp, 4100, .inl gpp)), (h0, .inr (2, [.ref pr, .ref kn, .ref lt, .int h0_localCount, .ref pe, .int n4, .int h0_gives, .int h0_depth, .int h0_loopDepth, .ref to, .ref bo, .ref cs, .ref se])), (pr, .inr (6, [.ref gl, .ref fu, .ref pa, .ref pf, .ref sf, .ref pk, .ref pg, .ref pp, .ref pz, .ref pv, .int n6, .int n5, .ref pr_scanner_r, .int pr_stepCount, .int pr_open, .int pr_twoSides, .ref pr_waiting_r, .ref pr_waitingPlaces_r, .int pr_waitingCount])), (pe, .inl (cpe, 680, .inl gpe))] := hD
      have hP9 := hP.sub (ws' := [(h0, .inr (2, [.ref pr, .ref kn, .ref lt, .int h0_localCount, .ref pe, .int n4, .int h0_gives, .int h0_depth, .int h0_loopDepth, .ref to, .ref bo, .ref cs, .ref se])), (pr, .inr (6, [.ref gl, .ref fu, .ref pa, .ref pf, .ref sf, .ref pk, .ref pg, .ref pp, .ref pz, .ref pv, .int n6, .int n5, .ref pr_scanner_r, .int pr_stepCount, .int pr_open, .int pr_twoSides, .ref pr_waiting_r, .ref pr_waitingPlaces_r, .int pr_waitingCount])), (pe, .inl (cpe, 680, .inl gpe)), (bo, .inr (1, [.ref bob, .int bo_length])), (bob, .inl (cbob, 8192, .inl gbob)), (kn, .inr (5, [.ref tr, .ref kns, .ref knz, .ref knt, .ref knv, .int kn_length])), (pk, .inl (cpk, 4100, .inl gpk)), (pp, .inl (cpp, 4100, .inl gpp))]) [5, 6, 7, 0, 1, 2, 3, 4] rfl
      have hD9 := hD.sub (ws' := [(h0, .inr (2, [.ref pr, .ref kn, .ref lt, .int h0_localCount, .ref pe, .int n4, .int h0_gives, .int h0_depth, .int h0_loopDepth, .ref to, .ref bo, .ref cs, .ref se])), (pr, .inr (6, [.ref gl, .ref fu, .ref pa, .ref pf, .ref sf, .ref pk, .ref pg, .ref pp, .ref pz, .ref pv, .int n6, .int n5, .ref pr_scanner_r, .int pr_stepCount, .int pr_open, .int pr_twoSides, .ref pr_waiting_r, .ref pr_waitingPlaces_r, .int pr_waitingCount])), (pe, .inl (cpe, 680, .inl gpe)), (bo, .inr (1, [.ref bob, .int bo_length])), (bob, .inl (cbob, 8192, .inl gbob)), (kn, .inr (5, [.ref tr, .ref kns, .ref knz, .ref knt, .ref knv, .int kn_length])), (pk, .inl (cpk, 4100, .inl gpk)), (pp, .inl (cpp, 4100, .inl gpp))]) [5, 6, 7, 0, 1, 2, 3, 4] (by decide) rfl
      exact tz_leave rfl hno hlocks (fun t ht hW => ⟨⟨(gbob, gpe, bo_length, h0_depth, h0_loopDepth, n4, kn_length, n5, n6), ⟨⟨b_bo_length, bn4, b_kn_length⟩, by rw [ht]; exact hXX.moved hW.alike⟩, by rw [ht]; exact hP9, va_K.moved hW.alike hK, hD9⟩, hS.F ht⟩) hS.2.2
    obtain ⟨n7, n8, n9⟩ := u
    try dsimp only at hw
    obtain ⟨bn7, xr3⟩ := hw
    try clear hw
    obtain ⟨hP1, hK1, hD1⟩ := hB
    rw [ht] at hP1
    obtain ⟨hP, hD⟩ := va_join (wr := [(bo, .inr (1, [.ref bob, .int bo_length])), (bob, .inl (cbob, 8192, .inl gbob)), (kn, .inr (5, [.ref tr, .ref kns, .ref knz, .ref knt, .ref knv, .int kn_length])), (pk, .inl (cpk, 4100, .inl gpk)), (pp, .inl (cpp, 4100, .inl gpp))]) (w1 := [(h0, .inr (2, [.ref pr, .ref kn, .ref lt, .int h0_localCount, .ref pe, .int n7, .int h0_gives, .int h0_depth, .int h0_loopDepth, .ref to, .ref bo, .ref cs, .ref se])), (pr, .inr (6, [.ref gl, .ref fu, .ref pa, .ref pf, .ref sf, .ref pk, .ref pg, .ref pp, .ref pz, .ref pv, .int n9, .int n8, .ref pr_scanner_r, .int pr_stepCount, .int pr_open, .int pr_twoSides, .ref pr_waiting_r, .ref pr_waitingPlaces_r, .int pr_waitingCount])), (pe, .inl (cpe, 680, .inl gpe))]) hP hD [0, 1, 2] [3, 4, 5, 6, 7] rfl rfl (by decide) (by decide) hk1 hFc hP1 hD1
    clear hPc hDc hKc hFc hz1 hk1 hP1 hK1 hD1
    generalize H1 = H at hP hS ⊢
    have hP : va_P (dC, dI) cls [(bo, .inr (1, [.ref bob, .int bo_length])), (bob, .inl (cbob, 8192, .inl gbob)), (kn, .inr (5, [.ref tr, .ref kns, .ref knz, .ref knt, .ref knv, .int kn_length])), (pk, .inl (cpk, 4100, .inl gpk)), (pp, .inl (cpp, 4100, .inl gpp)), (h0, .inr (2, [.ref pr, .ref kn, .ref lt, .int h0_localCount, .ref pe, .int n7, .int h0_gives, .int h0_depth, .int h0_loopDepth, .ref to, .ref bo, .ref cs, .ref se])), (pr, .inr (6, [.ref gl, .ref fu, .ref pa, .ref pf, .ref sf, .ref pk, .ref pg, .ref pp, .ref pz, .ref pv, .int n9, .int n8, .ref pr_scanner_r, .int pr_stepCount, .int pr_open, .int pr_twoSides, .ref pr_waiting_r, .ref pr_waitingPlaces_r, .int pr_waitingCount])), (pe, .inl (cpe, 680, .inl gpe))] H := hP
    have hD : va_D A [(bo, .inr (1, [.ref bob, .int bo_length])), (bob, .inl (cbob, 8192, .inl gbob)), (kn, .inr (5, [.ref tr, .ref kns, .ref knz, .ref knt, .ref knv, .int kn_length])), (pk, .inl (cpk, 4100, .inl gpk)), (pp, .inl (cpp, 4100, .inl gpp)), (h0, .inr (2, [.ref pr, .ref kn, .ref lt, .int h0_localCount, .ref pe, .int n7, .int h0_gives, .int h0_depth, .int h0_loopDepth, .ref to, .ref bo, .ref cs, .ref se])), (pr, .inr (6, [.ref gl, .ref fu, .ref pa, .ref pf, .ref sf, .ref pk, .ref pg, .ref pp, .ref pz, .ref pv, .int n9, .int n8, .ref pr_scanner_r, .int pr_stepCount, .int pr_open, .int pr_twoSides, .ref pr_waiting_r, .ref pr_waitingPlaces_r, .int pr_waitingCount])), (pe, .inl (cpe, 680, .inl gpe))] := hD
    refine lv_aload_n hx hb d_CO_codeBranching_65 rfl (lv_at hl 0 rfl) ?_
    refine va_get (D := (dC, dI)) (ci := 2) (v := .ref bo) (C := R_CO) (T := F_CO) (N := 13) hx hb hts i_CO hown hK hP 5 rfl rfl 10 (by decide) (hts _ kF_CO_26) (fun _ h9 => h9) rfl d_CO_codeBranching_66 ?_
    refine lv_iconst (v := 4) hx hb d_CO_codeBranching_69 (by decide) ?_
    have hPc := hP.sub (ws' := [(bo, .inr (1, [.ref bob, .int bo_length])), (bob, .inl (cbob, 8192, .inl gbob))]) [0, 1] rfl
    have hDc := hD.sub (ws' := [(bo, .inr (1, [.ref bob, .int bo_length])), (bob, .inl (cbob, 8192, .inl gbob))]) [0, 1] (by decide) rfl
    have hKc := hK.sub (tys' := [(cbob, .byte)]) [1] rfl
    have hFc := va_free (wc := [(bo, .inr (1, [.ref bob, .int bo_length])), (bob, .inl (cbob, 8192, .inl gbob))]) hD hS hA [0, 1] rfl
    refine va_callv (va_runV (As := [.int 4]) (rest := []) ⟨hx, hb, hml, hown, hts⟩ (c_BR_put l dC dI bo bob H.size cbob 8192 bo_length gbob (by omega) (by omega) (by omega) 4) (cwV 1 hts (gV kM_CO_76 kV_BR_put kS_BR_put kI_BR kC_BR_put) rfl rfl rfl (by decide +kernel) ⟨Nat.le_of_ble_eq_true rfl, Nat.le_of_ble_eq_true rfl⟩) ⟨fun a U g mk z => by obtain ⟨z0, z1, zP, zK, zD⟩ := z; exact ⟨z0, z1, zP, va_K.moved (u := U) (U := U.calling g mk a) (Vm.Alike.refl U.vm) zK, zD⟩, va_recv hKc hPc (ci := 1) (q0 := 0) rfl rfl, fun U hU hW => ⟨rfl, by rw [hU], by rw [hU]; exact hPc, va_K.moved hW.alike hKc, hDc.weaken (fun _ _ _ _ => trivial)⟩⟩ rfl rfl hl.1 rfl (lv_room (Nat.le_of_ble_eq_true rfl)) d_CO_codeBranching_70 ⟨(Nat.zero_le _), (Nat.zero_le _)⟩) hS (fun q _ h => hFc q h) hFc (fun u t H1 locs ht hvm hw hB hz1 hk1 hS => ?_)
    obtain ⟨n11, f12⟩ := u
    try dsimp only at hw
    have tn11 := br_put_in (by omega) (by omega) (by omega) hw
    have bn11 := br_put_bl (by omega) (by omega) (by omega) hw
    obtain ⟨hP1, hK1, hD1⟩ := hB
    rw [ht] at hP1
    obtain ⟨hP, hD⟩ := va_join (wr := [(kn, .inr (5, [.ref tr, .ref kns, .ref knz, .ref knt, .ref knv, .int kn_length])), (pk, .inl (cpk, 4100, .inl gpk)), (pp, .inl (cpp, 4100, .inl gpp)), (h0, .inr (2, [.ref pr, .ref kn, .ref lt, .int h0_localCount, .ref pe, .int n7, .int h0_gives, .int h0_depth, .int h0_loopDepth, .ref to, .ref bo, .ref cs, .ref se])), (pr, .inr (6, [.ref gl, .ref fu, .ref pa, .ref pf, .ref sf, .ref pk, .ref pg, .ref pp, .ref pz, .ref pv, .int n9, .int n8, .ref pr_scanner_r, .int pr_stepCount, .int pr_open, .int pr_twoSides, .ref pr_waiting_r, .ref pr_waitingPlaces_r, .int pr_waitingCount])), (pe, .inl (cpe, 680, .inl gpe))]) (w1 := [(bo, .inr (1, [.ref bob, .int n11])), (bob, .inl (cbob, 8192, .inl f12))]) hP hD [0, 1] [2, 3, 4, 5, 6, 7] rfl rfl (by decide) (by decide) hk1 hFc hP1 hD1
    clear hPc hDc hKc hFc hz1 hk1 hP1 hK1 hD1
    generalize H1 = H at hP hS ⊢
    have hP : va_P (dC, dI) cls [(kn, .inr (5, [.ref tr, .ref kns, .ref knz, .ref knt, .ref knv, .int kn_length])), (pk, .inl (cpk, 4100, .inl gpk)), (pp, .inl (cpp, 4100, .inl gpp)), (h0, .inr (2, [.ref pr, .ref kn, .ref lt, .int h0_localCount, .ref pe, .int n7, .int h0_gives, .int h0_depth, .int h0_loopDepth, .ref to, .ref bo, .ref cs, .ref se])), (pr, .inr (6, [.ref gl, .ref fu, .ref pa, .ref pf, .ref sf, .ref pk, .ref pg, .ref pp, .ref pz, .ref pv, .int n9, .int n8, .ref pr_scanner_r, .int pr_stepCount, .int pr_open, .int pr_twoSides, .ref pr_waiting_r, .ref pr_waitingPlaces_r, .int pr_waitingCount])), (pe, .inl (cpe, 680, .inl gpe)), (bo, .inr (1, [.ref bob, .int n11])), (bob, .inl (cbob, 8192, .inl f12))] H := hP
    have hD : va_D A [(kn, .inr (5, [.ref tr, .ref kns, .ref knz, .ref knt, .ref knv, .int kn_length])), (pk, .inl (cpk, 4100, .inl gpk)), (pp, .inl (cpp, 4100, .inl gpp)), (h0, .inr (2, [.ref pr, .ref kn, .ref lt, .int h0_localCount, .ref pe, .int n7, .int h0_gives, .int h0_depth, .int h0_loopDepth, .ref to, .ref bo, .ref cs, .ref se])), (pr, .inr (6, [.ref gl, .ref fu, .ref pa, .ref pf, .ref sf, .ref pk, .ref pg, .ref pp, .ref pz, .ref pv, .int n9, .int n8, .ref pr_scanner_r, .int pr_stepCount, .int pr_open, .int pr_twoSides, .ref pr_waiting_r, .ref pr_waitingPlaces_r, .int pr_waitingCount])), (pe, .inl (cpe, 680, .inl gpe)), (bo, .inr (1, [.ref bob, .int n11])), (bob, .inl (cbob, 8192, .inl f12))] := hD
    refine lv_aload_n hx hb d_CO_codeBranching_73 rfl (lv_at hl 0 rfl) ?_
    refine va_get (D := (dC, dI)) (ci := 2) (v := .ref bo) (C := R_CO) (T := F_CO) (N := 13) hx hb hts i_CO hown hK hP 3 rfl rfl 10 (by decide) (hts _ kF_CO_26) (fun _ h9 => h9) rfl d_CO_codeBranching_74 ?_
    refine lv_bipush (v := 64) hx hb d_CO_codeBranching_77 (by decide) ?_
    have hPc := hP.sub (ws' := [(bo, .inr (1, [.ref bob, .int n11])), (bob, .inl (cbob, 8192, .inl f12))]) [6, 7] rfl
    have hDc := hD.sub (ws' := [(bo, .inr (1, [.ref bob, .int n11])), (bob, .inl (cbob, 8192, .inl f12))]) [6, 7] (by decide) rfl
    have hKc := hK.sub (tys' := [(cbob, .byte)]) [1] rfl
    have hFc := va_free (wc := [(bo, .inr (1, [.ref bob, .int n11])), (bob, .inl (cbob, 8192, .inl f12))]) hD hS hA [6, 7] rfl
    refine va_callv (va_runV (As := [.int 64]) (rest := []) ⟨hx, hb, hml, hown, hts⟩ (c_BR_put l dC dI bo bob H.size cbob 8192 n11 f12 (by omega) (by omega) (by omega) 64) (cwV 1 hts (gV kM_CO_76 kV_BR_put kS_BR_put kI_BR kC_BR_put) rfl rfl rfl (by decide +kernel) ⟨Nat.le_of_ble_eq_true rfl, Nat.le_of_ble_eq_true rfl⟩) ⟨fun a U g mk z => by obtain ⟨z0, z1, zP, zK, zD⟩ := z; exact ⟨z0, z1, zP, va_K.moved (u := U) (U := U.calling g mk a) (Vm.Alike.refl U.vm) zK, zD⟩, va_recv hKc hPc (ci := 1) (q0 := 0) rfl rfl, fun U hU hW => ⟨rfl, by rw [hU], by rw [hU]; exact hPc, va_K.moved hW.alike hKc, hDc.weaken (fun _ _ _ _ => trivial)⟩⟩ rfl rfl hl.1 rfl (lv_room (Nat.le_of_ble_eq_true rfl)) d_CO_codeBranching_79 ⟨(Nat.zero_le _), (Nat.zero_le _)⟩) hS (fun q _ h => hFc q h) hFc (fun u t H1 locs ht hvm hw hB hz1 hk1 hS => ?_)
    obtain ⟨n14, f15⟩ := u
    try dsimp only at hw
    have tn14 := br_put_in (by omega) (by omega) (by omega) hw
    have bn14 := br_put_bl (by omega) (by omega) (by omega) hw
    obtain ⟨hP1, hK1, hD1⟩ := hB
    rw [ht] at hP1
    obtain ⟨hP, hD⟩ := va_join (wr := [(kn, .inr (5, [.ref tr, .ref kns, .ref knz, .ref knt, .ref knv, .int kn_length])), (pk, .inl (cpk, 4100, .inl gpk)), (pp, .inl (cpp, 4100, .inl gpp)), (h0, .inr (2, [.ref pr, .ref kn, .ref lt, .int h0_localCount, .ref pe, .int n7, .int h0_gives, .int h0_depth, .int h0_loopDepth, .ref to, .ref bo, .ref cs, .ref se])), (pr, .inr (6, [.ref gl, .ref fu, .ref pa, .ref pf, .ref sf, .ref pk, .ref pg, .ref pp, .ref pz, .ref pv, .int n9, .int n8, .ref pr_scanner_r, .int pr_stepCount, .int pr_open, .int pr_twoSides, .ref pr_waiting_r, .ref pr_waitingPlaces_r, .int pr_waitingCount])), (pe, .inl (cpe, 680, .inl gpe))]) (w1 := [(bo, .inr (1, [.ref bob, .int n14])), (bob, .inl (cbob, 8192, .inl f15))]) hP hD [6, 7] [0, 1, 2, 3, 4, 5] rfl rfl (by decide) (by decide) hk1 hFc hP1 hD1
    clear hPc hDc hKc hFc hz1 hk1 hP1 hK1 hD1
    generalize H1 = H at hP hS ⊢
    have hP : va_P (dC, dI) cls [(kn, .inr (5, [.ref tr, .ref kns, .ref knz, .ref knt, .ref knv, .int kn_length])), (pk, .inl (cpk, 4100, .inl gpk)), (pp, .inl (cpp, 4100, .inl gpp)), (h0, .inr (2, [.ref pr, .ref kn, .ref lt, .int h0_localCount, .ref pe, .int n7, .int h0_gives, .int h0_depth, .int h0_loopDepth, .ref to, .ref bo, .ref cs, .ref se])), (pr, .inr (6, [.ref gl, .ref fu, .ref pa, .ref pf, .ref sf, .ref pk, .ref pg, .ref pp, .ref pz, .ref pv, .int n9, .int n8, .ref pr_scanner_r, .int pr_stepCount, .int pr_open, .int pr_twoSides, .ref pr_waiting_r, .ref pr_waitingPlaces_r, .int pr_waitingCount])), (pe, .inl (cpe, 680, .inl gpe)), (bo, .inr (1, [.ref bob, .int n14])), (bob, .inl (cbob, 8192, .inl f15))] H := hP
    have hD : va_D A [(kn, .inr (5, [.ref tr, .ref kns, .ref knz, .ref knt, .ref knv, .int kn_length])), (pk, .inl (cpk, 4100, .inl gpk)), (pp, .inl (cpp, 4100, .inl gpp)), (h0, .inr (2, [.ref pr, .ref kn, .ref lt, .int h0_localCount, .ref pe, .int n7, .int h0_gives, .int h0_depth, .int h0_loopDepth, .ref to, .ref bo, .ref cs, .ref se])), (pr, .inr (6, [.ref gl, .ref fu, .ref pa, .ref pf, .ref sf, .ref pk, .ref pg, .ref pp, .ref pz, .ref pv, .int n9, .int n8, .ref pr_scanner_r, .int pr_stepCount, .int pr_open, .int pr_twoSides, .ref pr_waiting_r, .ref pr_waitingPlaces_r, .int pr_waitingCount])), (pe, .inl (cpe, 680, .inl gpe)), (bo, .inr (1, [.ref bob, .int n14])), (bob, .inl (cbob, 8192, .inl f15))] := hD
    refine lv_aload_n hx hb d_CO_codeBranching_82 rfl (lv_at hl 0 rfl) ?_
    refine lv_dup hx hb d_CO_codeBranching_83 rfl ?_
    refine va_get (D := (dC, dI)) (ci := 2) (v := .int h0_depth) (C := R_CO) (T := F_CO) (N := 13) hx hb hts i_CO hown hK hP 3 rfl rfl 7 (by decide) (hts _ kF_CO_115) (fun _ h9 => h9) rfl d_CO_codeBranching_84 ?_
    refine lv_iconst (v := 1) hx hb d_CO_codeBranching_87 (by decide) ?_
    refine lv_iadd hx hb d_CO_codeBranching_88 ?_
    refine lv_topi (fun x16 ex16 => ?_)
    have tx16 : x16.toInt = h0_depth.toInt + 1 := by have z := i32_add ex16 (by omega) (by omega); omega
    refine va_put (D := (dC, dI)) (ci := 2) (v := .int x16) (ty := .int) (C := R_CO) (T := F_CO) (N := 13) hx hb hts i_CO t_CO t_CO_ok n_CO hown hK hP hD hS 3 rfl rfl 7 (by decide) (hts _ kF_CO_115) (fun _ h9 => h9) rfl (by decide +kernel) rfl rfl (Nat.le_of_ble_eq_true rfl) d_CO_codeBranching_89 (fun H locs hP hD hS => ?_)
    refine lv_goto (tgt := 209) hx hb d_CO_codeBranching_92 (by decide) ?_
    have hP9 := hP.sub (ws' := [(h0, .inr (2, [.ref pr, .ref kn, .ref lt, .int h0_localCount, .ref pe, .int n7, .int h0_gives, .int x16, .int h0_loopDepth, .ref to, .ref bo, .ref cs, .ref se])), (pr, .inr (6, [.ref gl, .ref fu, .ref pa, .ref pf, .ref sf, .ref pk, .ref pg, .ref pp, .ref pz, .ref pv, .int n9, .int n8, .ref pr_scanner_r, .int pr_stepCount, .int pr_open, .int pr_twoSides, .ref pr_waiting_r, .ref pr_waitingPlaces_r, .int pr_waitingCount])), (pe, .inl (cpe, 680, .inl gpe)), (bo, .inr (1, [.ref bob, .int n14])), (bob, .inl (cbob, 8192, .inl f15)), (kn, .inr (5, [.ref tr, .ref kns, .ref knz, .ref knt, .ref knv, .int kn_length])), (pk, .inl (cpk, 4100, .inl gpk)), (pp, .inl (cpp, 4100, .inl gpp))]) [3, 4, 5, 6, 7, 0, 1, 2] rfl
    have hD9 := hD.sub (ws' := [(h0, .inr (2, [.ref pr, .ref kn, .ref lt, .int h0_localCount, .ref pe, .int n7, .int h0_gives, .int x16, .int h0_loopDepth, .ref to, .ref bo, .ref cs, .ref se])), (pr, .inr (6, [.ref gl, .ref fu, .ref pa, .ref pf, .ref sf, .ref pk, .ref pg, .ref pp, .ref pz, .ref pv, .int n9, .int n8, .ref pr_scanner_r, .int pr_stepCount, .int pr_open, .int pr_twoSides, .ref pr_waiting_r, .ref pr_waitingPlaces_r, .int pr_waitingCount])), (pe, .inl (cpe, 680, .inl gpe)), (bo, .inr (1, [.ref bob, .int n14])), (bob, .inl (cbob, 8192, .inl f15)), (kn, .inr (5, [.ref tr, .ref kns, .ref knz, .ref knt, .ref knv, .int kn_length])), (pk, .inl (cpk, 4100, .inl gpk)), (pp, .inl (cpp, 4100, .inl gpp))]) [3, 4, 5, 6, 7, 0, 1, 2] (by decide) rfl
    exact tz_up (fun _ => rfl) (W.vret hx hb hr (fun t ht hW => ⟨⟨(f15, gpe, n14, x16, h0_loopDepth, n7, kn_length, n8, n9), ⟨rfl, ⟨by (try dsimp only) <;> omega, bn7, b_kn_length, ⟨by (try dsimp only); have hI := hI.out; have hbl : bl f15 n14.toNatClampNeg = bl gbob bo_length.toNatClampNeg ++ [4, 64] := (by rw [bn14 (by omega), bn11 (by omega), List.append_assoc]; rfl); rw [hbl, eS2, ec]; rw [show x16.toInt = h0_depth.toInt + 1 from by omega]; rw [eS, pl_s (n := h0_pendingCount.toNatClampNeg) (m := n7.toNatClampNeg) (by have := i32_clamp (x := n7) (by omega); omega)] at hI; exact cI_then hI (by rw [xr3.2]; decide) (by rw [← eS2]; exact hl2.2), by (try dsimp only) <;> omega⟩⟩⟩, by rw [ht]; exact hP9, va_K.moved hW.alike hK, hD9⟩, hS.F ht⟩) hS.2.2 d_CO_codeBranching_209)
  · skip
    by_cases g9_95 : x1.toInt = 14
    · have ho9 : tab_off 189 13 19 #[43, 86, 97, 119, 126, 168, 175] x1.toInt = 86 := by rw [g9_95]; rfl
      refine lv_tab (tgt := 95) hx hb d_CO_codeBranching_9 (by decide) ho9 (by decide) ?_
      clear ho9
      have h9 : (gpk p0.toNatClampNeg).toInt = 14 := by rw [← ex1]; omega
      have s9 := sI_14 hs.out h9
      obtain ⟨ec, T9, eS, eS2⟩ := s9
      refine lv_aload_n hx hb d_CO_codeBranching_95 rfl (lv_at hl 0 rfl) ?_
      refine va_get (D := (dC, dI)) (ci := 2) (v := .ref bo) (C := R_CO) (T := F_CO) (N := 13) hx hb hts i_CO hown hK hP 0 rfl rfl 10 (by decide) (hts _ kF_CO_26) (fun _ h9 => h9) rfl d_CO_codeBranching_96 ?_
      refine lv_iconst (v := 5) hx hb d_CO_codeBranching_99 (by decide) ?_
      have hPc := hP.sub (ws' := [(bo, .inr (1, [.ref bob, .int bo_length])), (bob, .inl (cbob, 8192, .inl gbob))]) [3, 4] rfl
      have hDc := hD.sub (ws' := [(bo, .inr (1, [.ref bob, .int bo_length])), (bob, .inl (cbob, 8192, .inl gbob))]) [3, 4] (by decide) rfl
      have hKc := hK.sub (tys' := [(cbob, .byte)]) [1] rfl
      have hFc := va_free (wc := [(bo, .inr (1, [.ref bob, .int bo_length])), (bob, .inl (cbob, 8192, .inl gbob))]) hD hS hA [3, 4] rfl
      refine va_callv (va_runV (As := [.int 5]) (rest := []) ⟨hx, hb, hml, hown, hts⟩ (c_BR_put l dC dI bo bob H.size cbob 8192 bo_length gbob (by omega) (by omega) (by omega) 5) (cwV 1 hts (gV kM_CO_76 kV_BR_put kS_BR_put kI_BR kC_BR_put) rfl rfl rfl (by decide +kernel) ⟨Nat.le_of_ble_eq_true rfl, Nat.le_of_ble_eq_true rfl⟩) ⟨fun a U g mk z => by obtain ⟨z0, z1, zP, zK, zD⟩ := z; exact ⟨z0, z1, zP, va_K.moved (u := U) (U := U.calling g mk a) (Vm.Alike.refl U.vm) zK, zD⟩, va_recv hKc hPc (ci := 1) (q0 := 0) rfl rfl, fun U hU hW => ⟨rfl, by rw [hU], by rw [hU]; exact hPc, va_K.moved hW.alike hKc, hDc.weaken (fun _ _ _ _ => trivial)⟩⟩ rfl rfl hl.1 rfl (lv_room (Nat.le_of_ble_eq_true rfl)) d_CO_codeBranching_100 ⟨(Nat.zero_le _), (Nat.zero_le _)⟩) hS (fun q _ h => hFc q h) hFc (fun u t H1 locs ht hvm hw hB hz1 hk1 hS => ?_)
      obtain ⟨n18, f19⟩ := u
      try dsimp only at hw
      have tn18 := br_put_in (by omega) (by omega) (by omega) hw
      have bn18 := br_put_bl (by omega) (by omega) (by omega) hw
      obtain ⟨hP1, hK1, hD1⟩ := hB
      rw [ht] at hP1
      obtain ⟨hP, hD⟩ := va_join (wr := [(h0, .inr (2, [.ref pr, .ref kn, .ref lt, .int h0_localCount, .ref pe, .int h0_pendingCount, .int h0_gives, .int h0_depth, .int h0_loopDepth, .ref to, .ref bo, .ref cs, .ref se])), (pr, .inr (6, [.ref gl, .ref fu, .ref pa, .ref pf, .ref sf, .ref pk, .ref pg, .ref pp, .ref pz, .ref pv, .int pr_reason, .int pr_place, .ref pr_scanner_r, .int pr_stepCount, .int pr_open, .int pr_twoSides, .ref pr_waiting_r, .ref pr_waitingPlaces_r, .int pr_waitingCount])), (pe, .inl (cpe, 680, .inl gpe)), (kn, .inr (5, [.ref tr, .ref kns, .ref knz, .ref knt, .ref knv, .int kn_length])), (pk, .inl (cpk, 4100, .inl gpk)), (pp, .inl (cpp, 4100, .inl gpp))]) (w1 := [(bo, .inr (1, [.ref bob, .int n18])), (bob, .inl (cbob, 8192, .inl f19))]) hP hD [3, 4] [0, 1, 2, 5, 6, 7] rfl rfl (by decide) (by decide) hk1 hFc hP1 hD1
      clear hPc hDc hKc hFc hz1 hk1 hP1 hK1 hD1
      generalize H1 = H at hP hS ⊢
      have hP : va_P (dC, dI) cls [(h0, .inr (2, [.ref pr, .ref kn, .ref lt, .int h0_localCount, .ref pe, .int h0_pendingCount, .int h0_gives, .int h0_depth, .int h0_loopDepth, .ref to, .ref bo, .ref cs, .ref se])), (pr, .inr (6, [.ref gl, .ref fu, .ref pa, .ref pf, .ref sf, .ref pk, .ref pg, .ref pp, .ref pz, .ref pv, .int pr_reason, .int pr_place, .ref pr_scanner_r, .int pr_stepCount, .int pr_open, .int pr_twoSides, .ref pr_waiting_r, .ref pr_waitingPlaces_r, .int pr_waitingCount])), (pe, .inl (cpe, 680, .inl gpe)), (kn, .inr (5, [.ref tr, .ref kns, .ref knz, .ref knt, .ref knv, .int kn_length])), (pk, .inl (cpk, 4100, .inl gpk)), (pp, .inl (cpp, 4100, .inl gpp)), (bo, .inr (1, [.ref bob, .int n18])), (bob, .inl (cbob, 8192, .inl f19))] H := hP
      have hD : va_D A [(h0, .inr (2, [.ref pr, .ref kn, .ref lt, .int h0_localCount, .ref pe, .int h0_pendingCount, .int h0_gives, .int h0_depth, .int h0_loopDepth, .ref to, .ref bo, .ref cs, .ref se])), (pr, .inr (6, [.ref gl, .ref fu, .ref pa, .ref pf, .ref sf, .ref pk, .ref pg, .ref pp, .ref pz, .ref pv, .int pr_reason, .int pr_place, .ref pr_scanner_r, .int pr_stepCount, .int pr_open, .int pr_twoSides, .ref pr_waiting_r, .ref pr_waitingPlaces_r, .int pr_waitingCount])), (pe, .inl (cpe, 680, .inl gpe)), (kn, .inr (5, [.ref tr, .ref kns, .ref knz, .ref knt, .ref knv, .int kn_length])), (pk, .inl (cpk, 4100, .inl gpk)), (pp, .inl (cpp, 4100, .inl gpp)), (bo, .inr (1, [.ref bob, .int n18])), (bob, .inl (cbob, 8192, .inl f19))] := hD
      refine lv_goto (tgt := 209) hx hb d_CO_codeBranching_103 (by decide) ?_
      have hP9 := hP.sub (ws' := [(h0, .inr (2, [.ref pr, .ref kn, .ref lt, .int h0_localCount, .ref pe, .int h0_pendingCount, .int h0_gives, .int h0_depth, .int h0_loopDepth, .ref to, .ref bo, .ref cs, .ref se])), (pr, .inr (6, [.ref gl, .ref fu, .ref pa, .ref pf, .ref sf, .ref pk, .ref pg, .ref pp, .ref pz, .ref pv, .int pr_reason, .int pr_place, .ref pr_scanner_r, .int pr_stepCount, .int pr_open, .int pr_twoSides, .ref pr_waiting_r, .ref pr_waitingPlaces_r, .int pr_waitingCount])), (pe, .inl (cpe, 680, .inl gpe)), (bo, .inr (1, [.ref bob, .int n18])), (bob, .inl (cbob, 8192, .inl f19)), (kn, .inr (5, [.ref tr, .ref kns, .ref knz, .ref knt, .ref knv, .int kn_length])), (pk, .inl (cpk, 4100, .inl gpk)), (pp, .inl (cpp, 4100, .inl gpp))]) [0, 1, 2, 6, 7, 3, 4, 5] rfl
      have hD9 := hD.sub (ws' := [(h0, .inr (2, [.ref pr, .ref kn, .ref lt, .int h0_localCount, .ref pe, .int h0_pendingCount, .int h0_gives, .int h0_depth, .int h0_loopDepth, .ref to, .ref bo, .ref cs, .ref se])), (pr, .inr (6, [.ref gl, .ref fu, .ref pa, .ref pf, .ref sf, .ref pk, .ref pg, .ref pp, .ref pz, .ref pv, .int pr_reason, .int pr_place, .ref pr_scanner_r, .int pr_stepCount, .int pr_open, .int pr_twoSides, .ref pr_waiting_r, .ref pr_waitingPlaces_r, .int pr_waitingCount])), (pe, .inl (cpe, 680, .inl gpe)), (bo, .inr (1, [.ref bob, .int n18])), (bob, .inl (cbob, 8192, .inl f19)), (kn, .inr (5, [.ref tr, .ref kns, .ref knz, .ref knt, .ref knv, .int kn_length])), (pk, .inl (cpk, 4100, .inl gpk)), (pp, .inl (cpp, 4100, .inl gpp))]) [0, 1, 2, 6, 7, 3, 4, 5] (by decide) rfl
      exact tz_up (fun _ => rfl) (W.vret hx hb hr (fun t ht hW => ⟨⟨(f19, gpe, n18, h0_depth, h0_loopDepth, h0_pendingCount, kn_length, pr_place, pr_reason), ⟨rfl, ⟨by (try dsimp only) <;> omega, b_h0_pendingCount, b_kn_length, ⟨by (try dsimp only); have hI := hI.out; have hbl : bl f19 n18.toNatClampNeg = bl gbob bo_length.toNatClampNeg ++ [5] := (by rw [bn18 (by omega)]; rfl); rw [hbl, eS2, ec]; rw [eS] at hI; exact cI_else hI, by (try dsimp only) <;> omega⟩⟩⟩, by rw [ht]; exact hP9, va_K.moved hW.alike hK, hD9⟩, hS.F ht⟩) hS.2.2 d_CO_codeBranching_209)
    · skip
      by_cases g9_106 : x1.toInt = 15
      · have ho9 : tab_off 189 13 19 #[43, 86, 97, 119, 126, 168, 175] x1.toInt = 97 := by rw [g9_106]; rfl
        refine lv_tab (tgt := 106) hx hb d_CO_codeBranching_9 (by decide) ho9 (by decide) ?_
        clear ho9
        have h9 : (gpk p0.toNatClampNeg).toInt = 15 := by rw [← ex1]; omega
        have s9 := sI_15 hs.out h9
        obtain ⟨ec, eS⟩ := s9
        have d15 : 1 ≤ h0_depth.toInt := by have q := hI.out.1; rcases eS with eS | eS <;> rw [eS] at q <;> (have := cJ_b gS2 (D := h0_depth.toInt - 1) q; omega)
        refine lv_aload_n hx hb d_CO_codeBranching_106 rfl (lv_at hl 0 rfl) ?_
        refine va_get (D := (dC, dI)) (ci := 2) (v := .ref bo) (C := R_CO) (T := F_CO) (N := 13) hx hb hts i_CO hown hK hP 0 rfl rfl 10 (by decide) (hts _ kF_CO_26) (fun _ h9 => h9) rfl d_CO_codeBranching_107 ?_
        refine lv_bipush (v := 11) hx hb d_CO_codeBranching_110 (by decide) ?_
        have hPc := hP.sub (ws' := [(bo, .inr (1, [.ref bob, .int bo_length])), (bob, .inl (cbob, 8192, .inl gbob))]) [3, 4] rfl
        have hDc := hD.sub (ws' := [(bo, .inr (1, [.ref bob, .int bo_length])), (bob, .inl (cbob, 8192, .inl gbob))]) [3, 4] (by decide) rfl
        have hKc := hK.sub (tys' := [(cbob, .byte)]) [1] rfl
        have hFc := va_free (wc := [(bo, .inr (1, [.ref bob, .int bo_length])), (bob, .inl (cbob, 8192, .inl gbob))]) hD hS hA [3, 4] rfl
        refine va_callv (va_runV (As := [.int 11]) (rest := []) ⟨hx, hb, hml, hown, hts⟩ (c_BR_put l dC dI bo bob H.size cbob 8192 bo_length gbob (by omega) (by omega) (by omega) 11) (cwV 1 hts (gV kM_CO_76 kV_BR_put kS_BR_put kI_BR kC_BR_put) rfl rfl rfl (by decide +kernel) ⟨Nat.le_of_ble_eq_true rfl, Nat.le_of_ble_eq_true rfl⟩) ⟨fun a U g mk z => by obtain ⟨z0, z1, zP, zK, zD⟩ := z; exact ⟨z0, z1, zP, va_K.moved (u := U) (U := U.calling g mk a) (Vm.Alike.refl U.vm) zK, zD⟩, va_recv hKc hPc (ci := 1) (q0 := 0) rfl rfl, fun U hU hW => ⟨rfl, by rw [hU], by rw [hU]; exact hPc, va_K.moved hW.alike hKc, hDc.weaken (fun _ _ _ _ => trivial)⟩⟩ rfl rfl hl.1 rfl (lv_room (Nat.le_of_ble_eq_true rfl)) d_CO_codeBranching_112 ⟨(Nat.zero_le _), (Nat.zero_le _)⟩) hS (fun q _ h => hFc q h) hFc (fun u t H1 locs ht hvm hw hB hz1 hk1 hS => ?_)
        obtain ⟨n21, f22⟩ := u
        try dsimp only at hw
        have tn21 := br_put_in (by omega) (by omega) (by omega) hw
        have bn21 := br_put_bl (by omega) (by omega) (by omega) hw
        obtain ⟨hP1, hK1, hD1⟩ := hB
        rw [ht] at hP1
        obtain ⟨hP, hD⟩ := va_join (wr := [(h0, .inr (2, [.ref pr, .ref kn, .ref lt, .int h0_localCount, .ref pe, .int h0_pendingCount, .int h0_gives, .int h0_depth, .int h0_loopDepth, .ref to, .ref bo, .ref cs, .ref se])), (pr, .inr (6, [.ref gl, .ref fu, .ref pa, .ref pf, .ref sf, .ref pk, .ref pg, .ref pp, .ref pz, .ref pv, .int pr_reason, .int pr_place, .ref pr_scanner_r, .int pr_stepCount, .int pr_open, .int pr_twoSides, .ref pr_waiting_r, .ref pr_waitingPlaces_r, .int pr_waitingCount])), (pe, .inl (cpe, 680, .inl gpe)), (kn, .inr (5, [.ref tr, .ref kns, .ref knz, .ref knt, .ref knv, .int kn_length])), (pk, .inl (cpk, 4100, .inl gpk)), (pp, .inl (cpp, 4100, .inl gpp))]) (w1 := [(bo, .inr (1, [.ref bob, .int n21])), (bob, .inl (cbob, 8192, .inl f22))]) hP hD [3, 4] [0, 1, 2, 5, 6, 7] rfl rfl (by decide) (by decide) hk1 hFc hP1 hD1
        clear hPc hDc hKc hFc hz1 hk1 hP1 hK1 hD1
        generalize H1 = H at hP hS ⊢
        have hP : va_P (dC, dI) cls [(h0, .inr (2, [.ref pr, .ref kn, .ref lt, .int h0_localCount, .ref pe, .int h0_pendingCount, .int h0_gives, .int h0_depth, .int h0_loopDepth, .ref to, .ref bo, .ref cs, .ref se])), (pr, .inr (6, [.ref gl, .ref fu, .ref pa, .ref pf, .ref sf, .ref pk, .ref pg, .ref pp, .ref pz, .ref pv, .int pr_reason, .int pr_place, .ref pr_scanner_r, .int pr_stepCount, .int pr_open, .int pr_twoSides, .ref pr_waiting_r, .ref pr_waitingPlaces_r, .int pr_waitingCount])), (pe, .inl (cpe, 680, .inl gpe)), (kn, .inr (5, [.ref tr, .ref kns, .ref knz, .ref knt, .ref knv, .int kn_length])), (pk, .inl (cpk, 4100, .inl gpk)), (pp, .inl (cpp, 4100, .inl gpp)), (bo, .inr (1, [.ref bob, .int n21])), (bob, .inl (cbob, 8192, .inl f22))] H := hP
        have hD : va_D A [(h0, .inr (2, [.ref pr, .ref kn, .ref lt, .int h0_localCount, .ref pe, .int h0_pendingCount, .int h0_gives, .int h0_depth, .int h0_loopDepth, .ref to, .ref bo, .ref cs, .ref se])), (pr, .inr (6, [.ref gl, .ref fu, .ref pa, .ref pf, .ref sf, .ref pk, .ref pg, .ref pp, .ref pz, .ref pv, .int pr_reason, .int pr_place, .ref pr_scanner_r, .int pr_stepCount, .int pr_open, .int pr_twoSides, .ref pr_waiting_r, .ref pr_waitingPlaces_r, .int pr_waitingCount])), (pe, .inl (cpe, 680, .inl gpe)), (kn, .inr (5, [.ref tr, .ref kns, .ref knz, .ref knt, .ref knv, .int kn_length])), (pk, .inl (cpk, 4100, .inl gpk)), (pp, .inl (cpp, 4100, .inl gpp)), (bo, .inr (1, [.ref bob, .int n21])), (bob, .inl (cbob, 8192, .inl f22))] := hD
        refine lv_aload_n hx hb d_CO_codeBranching_115 rfl (lv_at hl 0 rfl) ?_
        refine lv_dup hx hb d_CO_codeBranching_116 rfl ?_
        refine va_get (D := (dC, dI)) (ci := 2) (v := .int h0_depth) (C := R_CO) (T := F_CO) (N := 13) hx hb hts i_CO hown hK hP 0 rfl rfl 7 (by decide) (hts _ kF_CO_115) (fun _ h9 => h9) rfl d_CO_codeBranching_117 ?_
        refine lv_iconst (v := 1) hx hb d_CO_codeBranching_120 (by decide) ?_
        refine lv_isub hx hb d_CO_codeBranching_121 ?_
        refine lv_topi (fun x23 ex23 => ?_)
        have tx23 : x23.toInt = h0_depth.toInt - 1 := by have z := i32_sub ex23 (by omega) (by omega); omega
        refine va_put (D := (dC, dI)) (ci := 2) (v := .int x23) (ty := .int) (C := R_CO) (T := F_CO) (N := 13) hx hb hts i_CO t_CO t_CO_ok n_CO hown hK hP hD hS 0 rfl rfl 7 (by decide) (hts _ kF_CO_115) (fun _ h9 => h9) rfl (by decide +kernel) rfl rfl (Nat.le_of_ble_eq_true rfl) d_CO_codeBranching_122 (fun H locs hP hD hS => ?_)
        refine lv_goto (tgt := 209) hx hb d_CO_codeBranching_125 (by decide) ?_
        have hP9 := hP.sub (ws' := [(h0, .inr (2, [.ref pr, .ref kn, .ref lt, .int h0_localCount, .ref pe, .int h0_pendingCount, .int h0_gives, .int x23, .int h0_loopDepth, .ref to, .ref bo, .ref cs, .ref se])), (pr, .inr (6, [.ref gl, .ref fu, .ref pa, .ref pf, .ref sf, .ref pk, .ref pg, .ref pp, .ref pz, .ref pv, .int pr_reason, .int pr_place, .ref pr_scanner_r, .int pr_stepCount, .int pr_open, .int pr_twoSides, .ref pr_waiting_r, .ref pr_waitingPlaces_r, .int pr_waitingCount])), (pe, .inl (cpe, 680, .inl gpe)), (bo, .inr (1, [.ref bob, .int n21])), (bob, .inl (cbob, 8192, .inl f22)), (kn, .inr (5, [.ref tr, .ref kns, .ref knz, .ref knt, .ref knv, .int kn_length])), (pk, .inl (cpk, 4100, .inl gpk)), (pp, .inl (cpp, 4100, .inl gpp))]) [0, 1, 2, 6, 7, 3, 4, 5] rfl
        have hD9 := hD.sub (ws' := [(h0, .inr (2, [.ref pr, .ref kn, .ref lt, .int h0_localCount, .ref pe, .int h0_pendingCount, .int h0_gives, .int x23, .int h0_loopDepth, .ref to, .ref bo, .ref cs, .ref se])), (pr, .inr (6, [.ref gl, .ref fu, .ref pa, .ref pf, .ref sf, .ref pk, .ref pg, .ref pp, .ref pz, .ref pv, .int pr_reason, .int pr_place, .ref pr_scanner_r, .int pr_stepCount, .int pr_open, .int pr_twoSides, .ref pr_waiting_r, .ref pr_waitingPlaces_r, .int pr_waitingCount])), (pe, .inl (cpe, 680, .inl gpe)), (bo, .inr (1, [.ref bob, .int n21])), (bob, .inl (cbob, 8192, .inl f22)), (kn, .inr (5, [.ref tr, .ref kns, .ref knz, .ref knt, .ref knv, .int kn_length])), (pk, .inl (cpk, 4100, .inl gpk)), (pp, .inl (cpp, 4100, .inl gpp))]) [0, 1, 2, 6, 7, 3, 4, 5] (by decide) rfl
        exact tz_up (fun _ => rfl) (W.vret hx hb hr (fun t ht hW => ⟨⟨(f22, gpe, n21, x23, h0_loopDepth, h0_pendingCount, kn_length, pr_place, pr_reason), ⟨rfl, ⟨by (try dsimp only) <;> omega, b_h0_pendingCount, b_kn_length, ⟨by (try dsimp only); have hI := hI.out; have hbl : bl f22 n21.toNatClampNeg = bl gbob bo_length.toNatClampNeg ++ [11] := (by rw [bn21 (by omega)]; rfl); rw [hbl, ec]; rw [show x23.toInt = h0_depth.toInt - 1 from by omega]; rcases eS with eS | eS <;> rw [eS] at hI; exact cI_fi hI (Or.inl rfl); exact cI_fi hI (Or.inr rfl), by (try dsimp only) <;> omega⟩⟩⟩, by rw [ht]; exact hP9, va_K.moved hW.alike hK, hD9⟩, hS.F ht⟩) hS.2.2 d_CO_codeBranching_209)
      · skip
        by_cases g9_128 : x1.toInt = 16
        · have ho9 : tab_off 189 13 19 #[43, 86, 97, 119, 126, 168, 175] x1.toInt = 119 := by rw [g9_128]; rfl
          refine lv_tab (tgt := 128) hx hb d_CO_codeBranching_9 (by decide) ho9 (by decide) ?_
          clear ho9
          have h9 : (gpk p0.toNatClampNeg).toInt = 16 := by rw [← ex1]; omega
          have s9 := sI_16 hs.out h9
          obtain ⟨ec, eS2⟩ := s9
          have q2 : gS2.length = gS.length + 1 := by rw [eS2, List.length_cons]
          refine lv_aload_n hx hb d_CO_codeBranching_128 rfl (lv_at hl 0 rfl) ?_
          have hPc := hP.sub (ws' := [(h0, .inr (2, [.ref pr, .ref kn, .ref lt, .int h0_localCount, .ref pe, .int h0_pendingCount, .int h0_gives, .int h0_depth, .int h0_loopDepth, .ref to, .ref bo, .ref cs, .ref se])), (pe, .inl (cpe, 680, .inl gpe)), (bo, .inr (1, [.ref bob, .int bo_length])), (bob, .inl (cbob, 8192, .inl gbob))]) [0, 2, 3, 4] rfl
          have hDc := hD.sub (ws' := [(h0, .inr (2, [.ref pr, .ref kn, .ref lt, .int h0_localCount, .ref pe, .int h0_pendingCount, .int h0_gives, .int h0_depth, .int h0_loopDepth, .ref to, .ref bo, .ref cs, .ref se])), (pe, .inl (cpe, 680, .inl gpe)), (bo, .inr (1, [.ref bob, .int bo_length])), (bob, .inl (cbob, 8192, .inl gbob))]) [0, 2, 3, 4] (by decide) rfl
          have hKc := hK.sub (tys' := [(cpe, .int), (cbob, .byte)]) [0, 1] rfl
          have hFc := va_free (wc := [(h0, .inr (2, [.ref pr, .ref kn, .ref lt, .int h0_localCount, .ref pe, .int h0_pendingCount, .int h0_gives, .int h0_depth, .int h0_loopDepth, .ref to, .ref bo, .ref cs, .ref se])), (pe, .inl (cpe, 680, .inl gpe)), (bo, .inr (1, [.ref bob, .int bo_length])), (bob, .inl (cbob, 8192, .inl gbob))]) hD hS hA [0, 2, 3, 4] rfl
          refine va_callv (va_runV (As := []) (rest := []) ⟨hx, hb, hml, hown, hts⟩ (c_CO_beginLoop l dC dI H.size h0 pr kn lt pe to bo cs se bob cpe cbob h0_localCount h0_pendingCount h0_gives h0_depth h0_loopDepth gpe bo_length gbob (b_h0_pendingCount) (b_bo_length) (by omega) (by omega) (by omega)) (cwV 0 hts (gV kM_CO_282 kV_CO_beginLoop kS_CO_beginLoop kI_CO kC_CO_beginLoop) rfl rfl rfl (by decide +kernel) ⟨Nat.le_of_ble_eq_true rfl, Nat.le_of_ble_eq_true rfl⟩) ⟨fun a U g mk z => by obtain ⟨z0, z1, zP, zK, zD⟩ := z; exact ⟨z0, z1, zP, va_K.moved (u := U) (U := U.calling g mk a) (Vm.Alike.refl U.vm) zK, zD⟩, va_recv hKc hPc (ci := 2) (q0 := 0) rfl rfl, fun U hU hW => ⟨rfl, by rw [hU], by rw [hU]; exact hPc, va_K.moved hW.alike hKc, hDc.weaken (fun _ _ _ _ => trivial)⟩⟩ rfl rfl hl.1 rfl (lv_room (Nat.le_of_ble_eq_true rfl)) d_CO_codeBranching_129 ⟨(Nat.zero_le _), (Nat.zero_le _)⟩) hS (fun q _ h => hFc q h) hFc (fun u t H1 locs ht hvm hw hB hz1 hk1 hS => ?_)
          obtain ⟨n25, n26, n27, n28, n29, n30⟩ := u
          try dsimp only at hw
          obtain ⟨bn27, bn30, xr24⟩ := hw
          try clear hw
          obtain ⟨hP1, hK1, hD1⟩ := hB
          rw [ht] at hP1
          obtain ⟨hP, hD⟩ := va_join (wr := [(pr, .inr (6, [.ref gl, .ref fu, .ref pa, .ref pf, .ref sf, .ref pk, .ref pg, .ref pp, .ref pz, .ref pv, .int pr_reason, .int pr_place, .ref pr_scanner_r, .int pr_stepCount, .int pr_open, .int pr_twoSides, .ref pr_waiting_r, .ref pr_waitingPlaces_r, .int pr_waitingCount])), (kn, .inr (5, [.ref tr, .ref kns, .ref knz, .ref knt, .ref knv, .int kn_length])), (pk, .inl (cpk, 4100, .inl gpk)), (pp, .inl (cpp, 4100, .inl gpp))]) (w1 := [(h0, .inr (2, [.ref pr, .ref kn, .ref lt, .int h0_localCount, .ref pe, .int n30, .int h0_gives, .int n28, .int n29, .ref to, .ref bo, .ref cs, .ref se])), (pe, .inl (cpe, 680, .inl n26)), (bo, .inr (1, [.ref bob, .int n27])), (bob, .inl (cbob, 8192, .inl n25))]) hP hD [0, 2, 3, 4] [1, 5, 6, 7] rfl rfl (by decide) (by decide) hk1 hFc hP1 hD1
          clear hPc hDc hKc hFc hz1 hk1 hP1 hK1 hD1
          generalize H1 = H at hP hS ⊢
          have hP : va_P (dC, dI) cls [(pr, .inr (6, [.ref gl, .ref fu, .ref pa, .ref pf, .ref sf, .ref pk, .ref pg, .ref pp, .ref pz, .ref pv, .int pr_reason, .int pr_place, .ref pr_scanner_r, .int pr_stepCount, .int pr_open, .int pr_twoSides, .ref pr_waiting_r, .ref pr_waitingPlaces_r, .int pr_waitingCount])), (kn, .inr (5, [.ref tr, .ref kns, .ref knz, .ref knt, .ref knv, .int kn_length])), (pk, .inl (cpk, 4100, .inl gpk)), (pp, .inl (cpp, 4100, .inl gpp)), (h0, .inr (2, [.ref pr, .ref kn, .ref lt, .int h0_localCount, .ref pe, .int n30, .int h0_gives, .int n28, .int n29, .ref to, .ref bo, .ref cs, .ref se])), (pe, .inl (cpe, 680, .inl n26)), (bo, .inr (1, [.ref bob, .int n27])), (bob, .inl (cbob, 8192, .inl n25))] H := hP
          have hD : va_D A [(pr, .inr (6, [.ref gl, .ref fu, .ref pa, .ref pf, .ref sf, .ref pk, .ref pg, .ref pp, .ref pz, .ref pv, .int pr_reason, .int pr_place, .ref pr_scanner_r, .int pr_stepCount, .int pr_open, .int pr_twoSides, .ref pr_waiting_r, .ref pr_waitingPlaces_r, .int pr_waitingCount])), (kn, .inr (5, [.ref tr, .ref kns, .ref knz, .ref knt, .ref knv, .int kn_length])), (pk, .inl (cpk, 4100, .inl gpk)), (pp, .inl (cpp, 4100, .inl gpp)), (h0, .inr (2, [.ref pr, .ref kn, .ref lt, .int h0_localCount, .ref pe, .int n30, .int h0_gives, .int n28, .int n29, .ref to, .ref bo, .ref cs, .ref se])), (pe, .inl (cpe, 680, .inl n26)), (bo, .inr (1, [.ref bob, .int n27])), (bob, .inl (cbob, 8192, .inl n25))] := hD
          refine lv_goto (tgt := 209) hx hb d_CO_codeBranching_132 (by decide) ?_
          have hP9 := hP.sub (ws' := [(h0, .inr (2, [.ref pr, .ref kn, .ref lt, .int h0_localCount, .ref pe, .int n30, .int h0_gives, .int n28, .int n29, .ref to, .ref bo, .ref cs, .ref se])), (pr, .inr (6, [.ref gl, .ref fu, .ref pa, .ref pf, .ref sf, .ref pk, .ref pg, .ref pp, .ref pz, .ref pv, .int pr_reason, .int pr_place, .ref pr_scanner_r, .int pr_stepCount, .int pr_open, .int pr_twoSides, .ref pr_waiting_r, .ref pr_waitingPlaces_r, .int pr_waitingCount])), (pe, .inl (cpe, 680, .inl n26)), (bo, .inr (1, [.ref bob, .int n27])), (bob, .inl (cbob, 8192, .inl n25)), (kn, .inr (5, [.ref tr, .ref kns, .ref knz, .ref knt, .ref knv, .int kn_length])), (pk, .inl (cpk, 4100, .inl gpk)), (pp, .inl (cpp, 4100, .inl gpp))]) [4, 0, 5, 6, 7, 1, 2, 3] rfl
          have hD9 := hD.sub (ws' := [(h0, .inr (2, [.ref pr, .ref kn, .ref lt, .int h0_localCount, .ref pe, .int n30, .int h0_gives, .int n28, .int n29, .ref to, .ref bo, .ref cs, .ref se])), (pr, .inr (6, [.ref gl, .ref fu, .ref pa, .ref pf, .ref sf, .ref pk, .ref pg, .ref pp, .ref pz, .ref pv, .int pr_reason, .int pr_place, .ref pr_scanner_r, .int pr_stepCount, .int pr_open, .int pr_twoSides, .ref pr_waiting_r, .ref pr_waitingPlaces_r, .int pr_waitingCount])), (pe, .inl (cpe, 680, .inl n26)), (bo, .inr (1, [.ref bob, .int n27])), (bob, .inl (cbob, 8192, .inl n25)), (kn, .inr (5, [.ref tr, .ref kns, .ref knz, .ref knt, .ref knv, .int kn_length])), (pk, .inl (cpk, 4100, .inl gpk)), (pp, .inl (cpp, 4100, .inl gpp))]) [4, 0, 5, 6, 7, 1, 2, 3] (by decide) rfl
          exact tz_up (fun _ => rfl) (W.vret hx hb hr (fun t ht hW => ⟨⟨(n25, n26, n27, n28, n29, n30, kn_length, pr_place, pr_reason), ⟨rfl, ⟨bn27, bn30, b_kn_length, ⟨by (try dsimp only); have hI := hI.out; rw [xr24.2.2.2, eS2, ec, show n28.toInt = h0_depth.toInt + 2 from xr24.2.1.1, show n29.toInt = h0_depth.toInt + 2 from xr24.2.1.2, xr24.1.2, show n30.toNatClampNeg = h0_pendingCount.toNatClampNeg + 1 from clampN (by have := xr24.1.1; omega), pl_put]; exact cI_loop hI (by rw [← eS2]; exact hl2.2), by (try dsimp only) <;> omega⟩⟩⟩, by rw [ht]; exact hP9, va_K.moved hW.alike hK, hD9⟩, hS.F ht⟩) hS.2.2 d_CO_codeBranching_209)
        · skip
          by_cases g9_135 : x1.toInt = 17
          · have ho9 : tab_off 189 13 19 #[43, 86, 97, 119, 126, 168, 175] x1.toInt = 126 := by rw [g9_135]; rfl
            refine lv_tab (tgt := 135) hx hb d_CO_codeBranching_9 (by decide) ho9 (by decide) ?_
            clear ho9
            have h9 : (gpk p0.toNatClampNeg).toInt = 17 := by rw [← ex1]; omega
            have s9 := sI_17 hs.out h9
            obtain ⟨ec, T9, eS, eS2⟩ := s9
            have q1 := hI.out.1
            rw [eS] at q1
            have q1 := cJ_pos q1 (by decide)
            refine lv_aload_n hx hb d_CO_codeBranching_135 rfl (lv_at hl 0 rfl) ?_
            refine lv_aload_n hx hb d_CO_codeBranching_136 rfl (lv_at hl 0 rfl) ?_
            refine va_get (D := (dC, dI)) (ci := 2) (v := .ref pr) (C := R_CO) (T := F_CO) (N := 13) hx hb hts i_CO hown hK hP 0 rfl rfl 0 (by decide) (hts _ kF_CO_36) (fun _ h9 => h9) rfl d_CO_codeBranching_137 ?_
            refine va_get (D := (dC, dI)) (ci := 6) (v := .ref pp) (C := R_PR) (T := F_PR) (N := 19) hx hb hts i_PR hown hK hP 1 rfl rfl 7 (by decide) (hts _ kF_CO_193) (fun _ h9 => h9) rfl d_CO_codeBranching_140 ?_
            refine lv_iload_n hx hb d_CO_codeBranching_143 rfl (lv_at hl 1 rfl) ?_
            have g144 : vp_in p0 4100 := vp_in_iff.mpr ⟨by omega, by omega⟩
            refine va_iald hx hb hK hP 7 3 rfl rfl g144 d_CO_codeBranching_144 ?_
            refine lv_topi (fun x31 ex31 => ?_)
            have hPc := hP.sub (ws' := [(h0, .inr (2, [.ref pr, .ref kn, .ref lt, .int h0_localCount, .ref pe, .int h0_pendingCount, .int h0_gives, .int h0_depth, .int h0_loopDepth, .ref to, .ref bo, .ref cs, .ref se])), (pr, .inr (6, [.ref gl, .ref fu, .ref pa, .ref pf, .ref sf, .ref pk, .ref pg, .ref pp, .ref pz, .ref pv, .int pr_reason, .int pr_place, .ref pr_scanner_r, .int pr_stepCount, .int pr_open, .int pr_twoSides, .ref pr_waiting_r, .ref pr_waitingPlaces_r, .int pr_waitingCount])), (pe, .inl (cpe, 680, .inl gpe))]) [0, 1, 2] rfl
            have hDc := hD.sub (ws' := [(h0, .inr (2, [.ref pr, .ref kn, .ref lt, .int h0_localCount, .ref pe, .int h0_pendingCount, .int h0_gives, .int h0_depth, .int h0_loopDepth, .ref to, .ref bo, .ref cs, .ref se])), (pr, .inr (6, [.ref gl, .ref fu, .ref pa, .ref pf, .ref sf, .ref pk, .ref pg, .ref pp, .ref pz, .ref pv, .int pr_reason, .int pr_place, .ref pr_scanner_r, .int pr_stepCount, .int pr_open, .int pr_twoSides, .ref pr_waiting_r, .ref pr_waitingPlaces_r, .int pr_waitingCount])), (pe, .inl (cpe, 680, .inl gpe))]) [0, 1, 2] (by decide) rfl
            have hKc := hK.sub (tys' := [(cpe, .int)]) [0] rfl
            have hFc := va_free (wc := [(h0, .inr (2, [.ref pr, .ref kn, .ref lt, .int h0_localCount, .ref pe, .int h0_pendingCount, .int h0_gives, .int h0_depth, .int h0_loopDepth, .ref to, .ref bo, .ref cs, .ref se])), (pr, .inr (6, [.ref gl, .ref fu, .ref pa, .ref pf, .ref sf, .ref pk, .ref pg, .ref pp, .ref pz, .ref pv, .int pr_reason, .int pr_place, .ref pr_scanner_r, .int pr_stepCount, .int pr_open, .int pr_twoSides, .ref pr_waiting_r, .ref pr_waitingPlaces_r, .int pr_waitingCount])), (pe, .inl (cpe, 680, .inl gpe))]) hD hS hA [0, 1, 2] rfl
            refine tq_callv (tz_runV (As := [.int x31]) (rest := []) ⟨hx, hb, hml, hown, hts⟩ (c_CO_takeCondition l hlt dC dI H.size sa h0 pr kn lt pe to bo cs se gl fu pa pf sf pk pg pp pz pv pr_scanner_r pr_waiting_r pr_waitingPlaces_r cpe h0_localCount h0_pendingCount h0_gives h0_depth h0_loopDepth pr_reason pr_place pr_stepCount pr_open pr_twoSides pr_waitingCount gpe (b_h0_pendingCount) x31 (by omega)) (cwV 1 hts (gV kM_CO_279 kV_CO_takeCondition kS_CO_takeCondition kI_CO kC_CO_takeCondition) rfl rfl rfl (by decide +kernel) ⟨Nat.le_of_ble_eq_true rfl, Nat.le_of_ble_eq_true rfl⟩) ⟨fun a U g mk z => by obtain ⟨z0, z1, zP, zK, zD, zS⟩ := z; exact ⟨z0, z1, zP, va_K.moved (u := U) (U := U.calling g mk a) (Vm.Alike.refl U.vm) zK, zD, sw.same (u := U) (U := U.calling g mk a) rfl zS⟩, va_recv hKc hPc (ci := 2) (q0 := 0) rfl rfl, fun U hU hW => ⟨rfl, by rw [hU], by rw [hU]; exact hPc, va_K.moved hW.alike hKc, hDc.weaken (fun _ _ _ _ => trivial), hSW.call hS hFc hW hU⟩⟩ rfl rfl hl.1 rfl (lv_room (Nat.le_of_ble_eq_true rfl)) d_CO_codeBranching_145 ⟨Nat.le_of_ble_eq_true rfl, Nat.le_of_ble_eq_true rfl⟩) hS (fun q _ h => hFc q h) hFc (fun u t H1 locs ht hvm hw hB hz1 hk1 hS => ?_) (fun xx u t H1 locs ht hvm hw hXX hB hz1 hk1 hS => ?_)
            rotate_left
            · skip
              obtain ⟨n33, n34, n35⟩ := u
              try dsimp only at hw
              have bn33 := hw
              obtain ⟨hP1, hK1, hD1⟩ := hB
              rw [ht] at hP1
              obtain ⟨hP, hD⟩ := va_join (wr := [(bo, .inr (1, [.ref bob, .int bo_length])), (bob, .inl (cbob, 8192, .inl gbob)), (kn, .inr (5, [.ref tr, .ref kns, .ref knz, .ref knt, .ref knv, .int kn_length])), (pk, .inl (cpk, 4100, .inl gpk)), (pp, .inl (cpp, 4100, .inl gpp))]) (w1 := [(h0, .inr (2, [.ref pr, .ref kn, .ref lt, .int h0_localCount, .ref pe, .int n33, .int h0_gives, .int h0_depth, .int h0_loopDepth, .ref to, .ref bo, .ref cs, .ref se])), (pr, .inr (6, [.ref gl, .ref fu, .ref pa, .ref pf, .ref sf, .ref pk, .ref pg, .ref pp, .ref pz, .ref pv, .int n35, .int n34, .ref pr_scanner_r, .int pr_stepCount, .int pr_open, .int pr_twoSides, .ref pr_waiting_r, .ref pr_waitingPlaces_r, .int pr_waitingCount])), (pe, .inl (cpe, 680, .inl gpe))]) hP hD [0, 1, 2] [3, 4, 5, 6, 7] rfl rfl (by decide) (by decide) hk1 hFc hP1 hD1
              have hP : va_P (dC, dI) cls [(bo, .inr (1, [.ref bob, .int bo_length])), (bob, .inl (cbob, 8192, .inl gbob)), (kn, .inr (5, [.ref tr, .ref kns, .ref knz, .ref knt, .ref knv, .int kn_length])), (pk, .inl (cpk, 4100, .inl gpk)), (pp, .inl (cpp, 4100, .inl gpp)), (h0, .inr (2, [.ref pr, .ref kn, .ref lt, .int h0_localCount, .ref pe, .int n33, .int h0_gives, .int h0_depth, .int h0_loopDepth, .ref to, .ref bo, .ref cs, .ref se])), (pr, .inr (6, [.ref gl, .ref fu, .ref pa, .ref pf, .ref sf, .ref pk, .ref pg, .ref pp, .ref pz, .ref pv, .int n35, .int n34, .ref pr_scanner_r, .int pr_stepCount, .int pr_open, .int pr_twoSides, .ref pr_waiting_r, .ref pr_waitingPlaces_r, .int pr_waitingCount])), (pe, .inl (cpe, 680, .inl gpe))] H1 := hP
              have hD : va_D A [(bo, .inr (1, [.ref bob, .int bo_length])), (bob, .inl (cbob, 8192, .inl gbob)), (kn, .inr (5, [.ref tr, .ref kns, .ref knz, .ref knt, .ref knv, .int kn_length])), (pk, .inl (cpk, 4100, .inl gpk)), (pp, .inl (cpp, 4100, .inl gpp)), (h0, .inr (2, [.ref pr, .ref kn, .ref lt, .int h0_localCount, .ref pe, .int n33, .int h0_gives, .int h0_depth, .int h0_loopDepth, .ref to, .ref bo, .ref cs, .ref se])), (pr, .inr (6, [.ref gl, .ref fu, .ref pa, .ref pf, .ref sf, .ref pk, .ref pg, .ref pp, .ref pz, .ref pv, .int n35, .int n34, .ref pr_scanner_r, .int pr_stepCount, .int pr_open, .int pr_twoSides, .ref pr_waiting_r, .ref pr_waitingPlaces_r, .int pr_waitingCount])), (pe, .inl (cpe, 680, .inl gpe))] := hD
              have hP9 := hP.sub (ws' := [(h0, .inr (2, [.ref pr, .ref kn, .ref lt, .int h0_localCount, .ref pe, .int n33, .int h0_gives, .int h0_depth, .int h0_loopDepth, .ref to, .ref bo, .ref cs, .ref se])), (pr, .inr (6, [.ref gl, .ref fu, .ref pa, .ref pf, .ref sf, .ref pk, .ref pg, .ref pp, .ref pz, .ref pv, .int n35, .int n34, .ref pr_scanner_r, .int pr_stepCount, .int pr_open, .int pr_twoSides, .ref pr_waiting_r, .ref pr_waitingPlaces_r, .int pr_waitingCount])), (pe, .inl (cpe, 680, .inl gpe)), (bo, .inr (1, [.ref bob, .int bo_length])), (bob, .inl (cbob, 8192, .inl gbob)), (kn, .inr (5, [.ref tr, .ref kns, .ref knz, .ref knt, .ref knv, .int kn_length])), (pk, .inl (cpk, 4100, .inl gpk)), (pp, .inl (cpp, 4100, .inl gpp))]) [5, 6, 7, 0, 1, 2, 3, 4] rfl
              have hD9 := hD.sub (ws' := [(h0, .inr (2, [.ref pr, .ref kn, .ref lt, .int h0_localCount, .ref pe, .int n33, .int h0_gives, .int h0_depth, .int h0_loopDepth, .ref to, .ref bo, .ref cs, .ref se])), (pr, .inr (6, [.ref gl, .ref fu, .ref pa, .ref pf, .ref sf, .ref pk, .ref pg, .ref pp, .ref pz, .ref pv, .int n35, .int n34, .ref pr_scanner_r, .int pr_stepCount, .int pr_open, .int pr_twoSides, .ref pr_waiting_r, .ref pr_waitingPlaces_r, .int pr_waitingCount])), (pe, .inl (cpe, 680, .inl gpe)), (bo, .inr (1, [.ref bob, .int bo_length])), (bob, .inl (cbob, 8192, .inl gbob)), (kn, .inr (5, [.ref tr, .ref kns, .ref knz, .ref knt, .ref knv, .int kn_length])), (pk, .inl (cpk, 4100, .inl gpk)), (pp, .inl (cpp, 4100, .inl gpp))]) [5, 6, 7, 0, 1, 2, 3, 4] (by decide) rfl
              exact tz_leave rfl hno hlocks (fun t ht hW => ⟨⟨(gbob, gpe, bo_length, h0_depth, h0_loopDepth, n33, kn_length, n34, n35), ⟨⟨b_bo_length, bn33, b_kn_length⟩, by rw [ht]; exact hXX.moved hW.alike⟩, by rw [ht]; exact hP9, va_K.moved hW.alike hK, hD9⟩, hS.F ht⟩) hS.2.2
            obtain ⟨n36, n37, n38⟩ := u
            try dsimp only at hw
            obtain ⟨bn36, xr32⟩ := hw
            try clear hw
            obtain ⟨hP1, hK1, hD1⟩ := hB
            rw [ht] at hP1
            obtain ⟨hP, hD⟩ := va_join (wr := [(bo, .inr (1, [.ref bob, .int bo_length])), (bob, .inl (cbob, 8192, .inl gbob)), (kn, .inr (5, [.ref tr, .ref kns, .ref knz, .ref knt, .ref knv, .int kn_length])), (pk, .inl (cpk, 4100, .inl gpk)), (pp, .inl (cpp, 4100, .inl gpp))]) (w1 := [(h0, .inr (2, [.ref pr, .ref kn, .ref lt, .int h0_localCount, .ref pe, .int n36, .int h0_gives, .int h0_depth, .int h0_loopDepth, .ref to, .ref bo, .ref cs, .ref se])), (pr, .inr (6, [.ref gl, .ref fu, .ref pa, .ref pf, .ref sf, .ref pk, .ref pg, .ref pp, .ref pz, .ref pv, .int n38, .int n37, .ref pr_scanner_r, .int pr_stepCount, .int pr_open, .int pr_twoSides, .ref pr_waiting_r, .ref pr_waitingPlaces_r, .int pr_waitingCount])), (pe, .inl (cpe, 680, .inl gpe))]) hP hD [0, 1, 2] [3, 4, 5, 6, 7] rfl rfl (by decide) (by decide) hk1 hFc hP1 hD1
            clear hPc hDc hKc hFc hz1 hk1 hP1 hK1 hD1
            generalize H1 = H at hP hS ⊢
            have hP : va_P (dC, dI) cls [(bo, .inr (1, [.ref bob, .int bo_length])), (bob, .inl (cbob, 8192, .inl gbob)), (kn, .inr (5, [.ref tr, .ref kns, .ref knz, .ref knt, .ref knv, .int kn_length])), (pk, .inl (cpk, 4100, .inl gpk)), (pp, .inl (cpp, 4100, .inl gpp)), (h0, .inr (2, [.ref pr, .ref kn, .ref lt, .int h0_localCount, .ref pe, .int n36, .int h0_gives, .int h0_depth, .int h0_loopDepth, .ref to, .ref bo, .ref cs, .ref se])), (pr, .inr (6, [.ref gl, .ref fu, .ref pa, .ref pf, .ref sf, .ref pk, .ref pg, .ref pp, .ref pz, .ref pv, .int n38, .int n37, .ref pr_scanner_r, .int pr_stepCount, .int pr_open, .int pr_twoSides, .ref pr_waiting_r, .ref pr_waitingPlaces_r, .int pr_waitingCount])), (pe, .inl (cpe, 680, .inl gpe))] H := hP
            have hD : va_D A [(bo, .inr (1, [.ref bob, .int bo_length])), (bob, .inl (cbob, 8192, .inl gbob)), (kn, .inr (5, [.ref tr, .ref kns, .ref knz, .ref knt, .ref knv, .int kn_length])), (pk, .inl (cpk, 4100, .inl gpk)), (pp, .inl (cpp, 4100, .inl gpp)), (h0, .inr (2, [.ref pr, .ref kn, .ref lt, .int h0_localCount, .ref pe, .int n36, .int h0_gives, .int h0_depth, .int h0_loopDepth, .ref to, .ref bo, .ref cs, .ref se])), (pr, .inr (6, [.ref gl, .ref fu, .ref pa, .ref pf, .ref sf, .ref pk, .ref pg, .ref pp, .ref pz, .ref pv, .int n38, .int n37, .ref pr_scanner_r, .int pr_stepCount, .int pr_open, .int pr_twoSides, .ref pr_waiting_r, .ref pr_waitingPlaces_r, .int pr_waitingCount])), (pe, .inl (cpe, 680, .inl gpe))] := hD
            refine lv_aload_n hx hb d_CO_codeBranching_148 rfl (lv_at hl 0 rfl) ?_
            refine va_get (D := (dC, dI)) (ci := 2) (v := .ref bo) (C := R_CO) (T := F_CO) (N := 13) hx hb hts i_CO hown hK hP 5 rfl rfl 10 (by decide) (hts _ kF_CO_26) (fun _ h9 => h9) rfl d_CO_codeBranching_149 ?_
            refine lv_bipush (v := 69) hx hb d_CO_codeBranching_152 (by decide) ?_
            have hPc := hP.sub (ws' := [(bo, .inr (1, [.ref bob, .int bo_length])), (bob, .inl (cbob, 8192, .inl gbob))]) [0, 1] rfl
            have hDc := hD.sub (ws' := [(bo, .inr (1, [.ref bob, .int bo_length])), (bob, .inl (cbob, 8192, .inl gbob))]) [0, 1] (by decide) rfl
            have hKc := hK.sub (tys' := [(cbob, .byte)]) [1] rfl
            have hFc := va_free (wc := [(bo, .inr (1, [.ref bob, .int bo_length])), (bob, .inl (cbob, 8192, .inl gbob))]) hD hS hA [0, 1] rfl
            refine va_callv (va_runV (As := [.int 69]) (rest := []) ⟨hx, hb, hml, hown, hts⟩ (c_BR_put l dC dI bo bob H.size cbob 8192 bo_length gbob (by omega) (by omega) (by omega) 69) (cwV 1 hts (gV kM_CO_76 kV_BR_put kS_BR_put kI_BR kC_BR_put) rfl rfl rfl (by decide +kernel) ⟨Nat.le_of_ble_eq_true rfl, Nat.le_of_ble_eq_true rfl⟩) ⟨fun a U g mk z => by obtain ⟨z0, z1, zP, zK, zD⟩ := z; exact ⟨z0, z1, zP, va_K.moved (u := U) (U := U.calling g mk a) (Vm.Alike.refl U.vm) zK, zD⟩, va_recv hKc hPc (ci := 1) (q0 := 0) rfl rfl, fun U hU hW => ⟨rfl, by rw [hU], by rw [hU]; exact hPc, va_K.moved hW.alike hKc, hDc.weaken (fun _ _ _ _ => trivial)⟩⟩ rfl rfl hl.1 rfl (lv_room (Nat.le_of_ble_eq_true rfl)) d_CO_codeBranching_154 ⟨(Nat.zero_le _), (Nat.zero_le _)⟩) hS (fun q _ h => hFc q h) hFc (fun u t H1 locs ht hvm hw hB hz1 hk1 hS => ?_)
            obtain ⟨n40, f41⟩ := u
            try dsimp only at hw
            have tn40 := br_put_in (by omega) (by omega) (by omega) hw
            have bn40 := br_put_bl (by omega) (by omega) (by omega) hw
            obtain ⟨hP1, hK1, hD1⟩ := hB
            rw [ht] at hP1
            obtain ⟨hP, hD⟩ := va_join (wr := [(kn, .inr (5, [.ref tr, .ref kns, .ref knz, .ref knt, .ref knv, .int kn_length])), (pk, .inl (cpk, 4100, .inl gpk)), (pp, .inl (cpp, 4100, .inl gpp)), (h0, .inr (2, [.ref pr, .ref kn, .ref lt, .int h0_localCount, .ref pe, .int n36, .int h0_gives, .int h0_depth, .int h0_loopDepth, .ref to, .ref bo, .ref cs, .ref se])), (pr, .inr (6, [.ref gl, .ref fu, .ref pa, .ref pf, .ref sf, .ref pk, .ref pg, .ref pp, .ref pz, .ref pv, .int n38, .int n37, .ref pr_scanner_r, .int pr_stepCount, .int pr_open, .int pr_twoSides, .ref pr_waiting_r, .ref pr_waitingPlaces_r, .int pr_waitingCount])), (pe, .inl (cpe, 680, .inl gpe))]) (w1 := [(bo, .inr (1, [.ref bob, .int n40])), (bob, .inl (cbob, 8192, .inl f41))]) hP hD [0, 1] [2, 3, 4, 5, 6, 7] rfl rfl (by decide) (by decide) hk1 hFc hP1 hD1
            clear hPc hDc hKc hFc hz1 hk1 hP1 hK1 hD1
            generalize H1 = H at hP hS ⊢
            have hP : va_P (dC, dI) cls [(kn, .inr (5, [.ref tr, .ref kns, .ref knz, .ref knt, .ref knv, .int kn_length])), (pk, .inl (cpk, 4100, .inl gpk)), (pp, .inl (cpp, 4100, .inl gpp)), (h0, .inr (2, [.ref pr, .ref kn, .ref lt, .int h0_localCount, .ref pe, .int n36, .int h0_gives, .int h0_depth, .int h0_loopDepth, .ref to, .ref bo, .ref cs, .ref se])), (pr, .inr (6, [.ref gl, .ref fu, .ref pa, .ref pf, .ref sf, .ref pk, .ref pg, .ref pp, .ref pz, .ref pv, .int n38, .int n37, .ref pr_scanner_r, .int pr_stepCount, .int pr_open, .int pr_twoSides, .ref pr_waiting_r, .ref pr_waitingPlaces_r, .int pr_waitingCount])), (pe, .inl (cpe, 680, .inl gpe)), (bo, .inr (1, [.ref bob, .int n40])), (bob, .inl (cbob, 8192, .inl f41))] H := hP
            have hD : va_D A [(kn, .inr (5, [.ref tr, .ref kns, .ref knz, .ref knt, .ref knv, .int kn_length])), (pk, .inl (cpk, 4100, .inl gpk)), (pp, .inl (cpp, 4100, .inl gpp)), (h0, .inr (2, [.ref pr, .ref kn, .ref lt, .int h0_localCount, .ref pe, .int n36, .int h0_gives, .int h0_depth, .int h0_loopDepth, .ref to, .ref bo, .ref cs, .ref se])), (pr, .inr (6, [.ref gl, .ref fu, .ref pa, .ref pf, .ref sf, .ref pk, .ref pg, .ref pp, .ref pz, .ref pv, .int n38, .int n37, .ref pr_scanner_r, .int pr_stepCount, .int pr_open, .int pr_twoSides, .ref pr_waiting_r, .ref pr_waitingPlaces_r, .int pr_waitingCount])), (pe, .inl (cpe, 680, .inl gpe)), (bo, .inr (1, [.ref bob, .int n40])), (bob, .inl (cbob, 8192, .inl f41))] := hD
            refine lv_aload_n hx hb d_CO_codeBranching_157 rfl (lv_at hl 0 rfl) ?_
            refine va_get (D := (dC, dI)) (ci := 2) (v := .ref bo) (C := R_CO) (T := F_CO) (N := 13) hx hb hts i_CO hown hK hP 3 rfl rfl 10 (by decide) (hts _ kF_CO_26) (fun _ h9 => h9) rfl d_CO_codeBranching_158 ?_
            refine lv_bipush (v := 13) hx hb d_CO_codeBranching_161 (by decide) ?_
            have hPc := hP.sub (ws' := [(bo, .inr (1, [.ref bob, .int n40])), (bob, .inl (cbob, 8192, .inl f41))]) [6, 7] rfl
            have hDc := hD.sub (ws' := [(bo, .inr (1, [.ref bob, .int n40])), (bob, .inl (cbob, 8192, .inl f41))]) [6, 7] (by decide) rfl
            have hKc := hK.sub (tys' := [(cbob, .byte)]) [1] rfl
            have hFc := va_free (wc := [(bo, .inr (1, [.ref bob, .int n40])), (bob, .inl (cbob, 8192, .inl f41))]) hD hS hA [6, 7] rfl
            refine va_callv (va_runV (As := [.int 13]) (rest := []) ⟨hx, hb, hml, hown, hts⟩ (c_BR_put l dC dI bo bob H.size cbob 8192 n40 f41 (by omega) (by omega) (by omega) 13) (cwV 1 hts (gV kM_CO_76 kV_BR_put kS_BR_put kI_BR kC_BR_put) rfl rfl rfl (by decide +kernel) ⟨Nat.le_of_ble_eq_true rfl, Nat.le_of_ble_eq_true rfl⟩) ⟨fun a U g mk z => by obtain ⟨z0, z1, zP, zK, zD⟩ := z; exact ⟨z0, z1, zP, va_K.moved (u := U) (U := U.calling g mk a) (Vm.Alike.refl U.vm) zK, zD⟩, va_recv hKc hPc (ci := 1) (q0 := 0) rfl rfl, fun U hU hW => ⟨rfl, by rw [hU], by rw [hU]; exact hPc, va_K.moved hW.alike hKc, hDc.weaken (fun _ _ _ _ => trivial)⟩⟩ rfl rfl hl.1 rfl (lv_room (Nat.le_of_ble_eq_true rfl)) d_CO_codeBranching_163 ⟨(Nat.zero_le _), (Nat.zero_le _)⟩) hS (fun q _ h => hFc q h) hFc (fun u t H1 locs ht hvm hw hB hz1 hk1 hS => ?_)
            obtain ⟨n43, f44⟩ := u
            try dsimp only at hw
            have tn43 := br_put_in (by omega) (by omega) (by omega) hw
            have bn43 := br_put_bl (by omega) (by omega) (by omega) hw
            obtain ⟨hP1, hK1, hD1⟩ := hB
            rw [ht] at hP1
            obtain ⟨hP, hD⟩ := va_join (wr := [(kn, .inr (5, [.ref tr, .ref kns, .ref knz, .ref knt, .ref knv, .int kn_length])), (pk, .inl (cpk, 4100, .inl gpk)), (pp, .inl (cpp, 4100, .inl gpp)), (h0, .inr (2, [.ref pr, .ref kn, .ref lt, .int h0_localCount, .ref pe, .int n36, .int h0_gives, .int h0_depth, .int h0_loopDepth, .ref to, .ref bo, .ref cs, .ref se])), (pr, .inr (6, [.ref gl, .ref fu, .ref pa, .ref pf, .ref sf, .ref pk, .ref pg, .ref pp, .ref pz, .ref pv, .int n38, .int n37, .ref pr_scanner_r, .int pr_stepCount, .int pr_open, .int pr_twoSides, .ref pr_waiting_r, .ref pr_waitingPlaces_r, .int pr_waitingCount])), (pe, .inl (cpe, 680, .inl gpe))]) (w1 := [(bo, .inr (1, [.ref bob, .int n43])), (bob, .inl (cbob, 8192, .inl f44))]) hP hD [6, 7] [0, 1, 2, 3, 4, 5] rfl rfl (by decide) (by decide) hk1 hFc hP1 hD1
            clear hPc hDc hKc hFc hz1 hk1 hP1 hK1 hD1
            generalize H1 = H at hP hS ⊢
            have hP : va_P (dC, dI) cls [(kn, .inr (5, [.ref tr, .ref kns, .ref knz, .ref knt, .ref knv, .int kn_length])), (pk, .inl (cpk, 4100, .inl gpk)), (pp, .inl (cpp, 4100, .inl gpp)), (h0, .inr (2, [.ref pr, .ref kn, .ref lt, .int h0_localCount, .ref pe, .int n36, .int h0_gives, .int h0_depth, .int h0_loopDepth, .ref to, .ref bo, .ref cs, .ref se])), (pr, .inr (6, [.ref gl, .ref fu, .ref pa, .ref pf, .ref sf, .ref pk, .ref pg, .ref pp, .ref pz, .ref pv, .int n38, .int n37, .ref pr_scanner_r, .int pr_stepCount, .int pr_open, .int pr_twoSides, .ref pr_waiting_r, .ref pr_waitingPlaces_r, .int pr_waitingCount])), (pe, .inl (cpe, 680, .inl gpe)), (bo, .inr (1, [.ref bob, .int n43])), (bob, .inl (cbob, 8192, .inl f44))] H := hP
            have hD : va_D A [(kn, .inr (5, [.ref tr, .ref kns, .ref knz, .ref knt, .ref knv, .int kn_length])), (pk, .inl (cpk, 4100, .inl gpk)), (pp, .inl (cpp, 4100, .inl gpp)), (h0, .inr (2, [.ref pr, .ref kn, .ref lt, .int h0_localCount, .ref pe, .int n36, .int h0_gives, .int h0_depth, .int h0_loopDepth, .ref to, .ref bo, .ref cs, .ref se])), (pr, .inr (6, [.ref gl, .ref fu, .ref pa, .ref pf, .ref sf, .ref pk, .ref pg, .ref pp, .ref pz, .ref pv, .int n38, .int n37, .ref pr_scanner_r, .int pr_stepCount, .int pr_open, .int pr_twoSides, .ref pr_waiting_r, .ref pr_waitingPlaces_r, .int pr_waitingCount])), (pe, .inl (cpe, 680, .inl gpe)), (bo, .inr (1, [.ref bob, .int n43])), (bob, .inl (cbob, 8192, .inl f44))] := hD
            refine lv_aload_n hx hb d_CO_codeBranching_166 rfl (lv_at hl 0 rfl) ?_
            refine va_get (D := (dC, dI)) (ci := 2) (v := .ref bo) (C := R_CO) (T := F_CO) (N := 13) hx hb hts i_CO hown hK hP 3 rfl rfl 10 (by decide) (hts _ kF_CO_26) (fun _ h9 => h9) rfl d_CO_codeBranching_167 ?_
            refine lv_iconst (v := 1) hx hb d_CO_codeBranching_170 (by decide) ?_
            have hPc := hP.sub (ws' := [(bo, .inr (1, [.ref bob, .int n43])), (bob, .inl (cbob, 8192, .inl f44))]) [6, 7] rfl
            have hDc := hD.sub (ws' := [(bo, .inr (1, [.ref bob, .int n43])), (bob, .inl (cbob, 8192, .inl f44))]) [6, 7] (by decide) rfl
            have hKc := hK.sub (tys' := [(cbob, .byte)]) [1] rfl
            have hFc := va_free (wc := [(bo, .inr (1, [.ref bob, .int n43])), (bob, .inl (cbob, 8192, .inl f44))]) hD hS hA [6, 7] rfl
            refine va_callv (va_runV (As := [.int 1]) (rest := []) ⟨hx, hb, hml, hown, hts⟩ (c_BR_put l dC dI bo bob H.size cbob 8192 n43 f44 (by omega) (by omega) (by omega) 1) (cwV 1 hts (gV kM_CO_76 kV_BR_put kS_BR_put kI_BR kC_BR_put) rfl rfl rfl (by decide +kernel) ⟨Nat.le_of_ble_eq_true rfl, Nat.le_of_ble_eq_true rfl⟩) ⟨fun a U g mk z => by obtain ⟨z0, z1, zP, zK, zD⟩ := z; exact ⟨z0, z1, zP, va_K.moved (u := U) (U := U.calling g mk a) (Vm.Alike.refl U.vm) zK, zD⟩, va_recv hKc hPc (ci := 1) (q0 := 0) rfl rfl, fun U hU hW => ⟨rfl, by rw [hU], by rw [hU]; exact hPc, va_K.moved hW.alike hKc, hDc.weaken (fun _ _ _ _ => trivial)⟩⟩ rfl rfl hl.1 rfl (lv_room (Nat.le_of_ble_eq_true rfl)) d_CO_codeBranching_171 ⟨(Nat.zero_le _), (Nat.zero_le _)⟩) hS (fun q _ h => hFc q h) hFc (fun u t H1 locs ht hvm hw hB hz1 hk1 hS => ?_)
            obtain ⟨n46, f47⟩ := u
            try dsimp only at hw
            have tn46 := br_put_in (by omega) (by omega) (by omega) hw
            have bn46 := br_put_bl (by omega) (by omega) (by omega) hw
            obtain ⟨hP1, hK1, hD1⟩ := hB
            rw [ht] at hP1
            obtain ⟨hP, hD⟩ := va_join (wr := [(kn, .inr (5, [.ref tr, .ref kns, .ref knz, .ref knt, .ref knv, .int kn_length])), (pk, .inl (cpk, 4100, .inl gpk)), (pp, .inl (cpp, 4100, .inl gpp)), (h0, .inr (2, [.ref pr, .ref kn, .ref lt, .int h0_localCount, .ref pe, .int n36, .int h0_gives, .int h0_depth, .int h0_loopDepth, .ref to, .ref bo, .ref cs, .ref se])), (pr, .inr (6, [.ref gl, .ref fu, .ref pa, .ref pf, .ref sf, .ref pk, .ref pg, .ref pp, .ref pz, .ref pv, .int n38, .int n37, .ref pr_scanner_r, .int pr_stepCount, .int pr_open, .int pr_twoSides, .ref pr_waiting_r, .ref pr_waitingPlaces_r, .int pr_waitingCount])), (pe, .inl (cpe, 680, .inl gpe))]) (w1 := [(bo, .inr (1, [.ref bob, .int n46])), (bob, .inl (cbob, 8192, .inl f47))]) hP hD [6, 7] [0, 1, 2, 3, 4, 5] rfl rfl (by decide) (by decide) hk1 hFc hP1 hD1
            clear hPc hDc hKc hFc hz1 hk1 hP1 hK1 hD1
            generalize H1 = H at hP hS ⊢
            have hP : va_P (dC, dI) cls [(kn, .inr (5, [.ref tr, .ref kns, .ref knz, .ref knt, .ref knv, .int kn_length])), (pk, .inl (cpk, 4100, .inl gpk)), (pp, .inl (cpp, 4100, .inl gpp)), (h0, .inr (2, [.ref pr, .ref kn, .ref lt, .int h0_localCount, .ref pe, .int n36, .int h0_gives, .int h0_depth, .int h0_loopDepth, .ref to, .ref bo, .ref cs, .ref se])), (pr, .inr (6, [.ref gl, .ref fu, .ref pa, .ref pf, .ref sf, .ref pk, .ref pg, .ref pp, .ref pz, .ref pv, .int n38, .int n37, .ref pr_scanner_r, .int pr_stepCount, .int pr_open, .int pr_twoSides, .ref pr_waiting_r, .ref pr_waitingPlaces_r, .int pr_waitingCount])), (pe, .inl (cpe, 680, .inl gpe)), (bo, .inr (1, [.ref bob, .int n46])), (bob, .inl (cbob, 8192, .inl f47))] H := hP
            have hD : va_D A [(kn, .inr (5, [.ref tr, .ref kns, .ref knz, .ref knt, .ref knv, .int kn_length])), (pk, .inl (cpk, 4100, .inl gpk)), (pp, .inl (cpp, 4100, .inl gpp)), (h0, .inr (2, [.ref pr, .ref kn, .ref lt, .int h0_localCount, .ref pe, .int n36, .int h0_gives, .int h0_depth, .int h0_loopDepth, .ref to, .ref bo, .ref cs, .ref se])), (pr, .inr (6, [.ref gl, .ref fu, .ref pa, .ref pf, .ref sf, .ref pk, .ref pg, .ref pp, .ref pz, .ref pv, .int n38, .int n37, .ref pr_scanner_r, .int pr_stepCount, .int pr_open, .int pr_twoSides, .ref pr_waiting_r, .ref pr_waitingPlaces_r, .int pr_waitingCount])), (pe, .inl (cpe, 680, .inl gpe)), (bo, .inr (1, [.ref bob, .int n46])), (bob, .inl (cbob, 8192, .inl f47))] := hD
            refine lv_goto (tgt := 209) hx hb d_CO_codeBranching_174 (by decide) ?_
            have hP9 := hP.sub (ws' := [(h0, .inr (2, [.ref pr, .ref kn, .ref lt, .int h0_localCount, .ref pe, .int n36, .int h0_gives, .int h0_depth, .int h0_loopDepth, .ref to, .ref bo, .ref cs, .ref se])), (pr, .inr (6, [.ref gl, .ref fu, .ref pa, .ref pf, .ref sf, .ref pk, .ref pg, .ref pp, .ref pz, .ref pv, .int n38, .int n37, .ref pr_scanner_r, .int pr_stepCount, .int pr_open, .int pr_twoSides, .ref pr_waiting_r, .ref pr_waitingPlaces_r, .int pr_waitingCount])), (pe, .inl (cpe, 680, .inl gpe)), (bo, .inr (1, [.ref bob, .int n46])), (bob, .inl (cbob, 8192, .inl f47)), (kn, .inr (5, [.ref tr, .ref kns, .ref knz, .ref knt, .ref knv, .int kn_length])), (pk, .inl (cpk, 4100, .inl gpk)), (pp, .inl (cpp, 4100, .inl gpp))]) [3, 4, 5, 6, 7, 0, 1, 2] rfl
            have hD9 := hD.sub (ws' := [(h0, .inr (2, [.ref pr, .ref kn, .ref lt, .int h0_localCount, .ref pe, .int n36, .int h0_gives, .int h0_depth, .int h0_loopDepth, .ref to, .ref bo, .ref cs, .ref se])), (pr, .inr (6, [.ref gl, .ref fu, .ref pa, .ref pf, .ref sf, .ref pk, .ref pg, .ref pp, .ref pz, .ref pv, .int n38, .int n37, .ref pr_scanner_r, .int pr_stepCount, .int pr_open, .int pr_twoSides, .ref pr_waiting_r, .ref pr_waitingPlaces_r, .int pr_waitingCount])), (pe, .inl (cpe, 680, .inl gpe)), (bo, .inr (1, [.ref bob, .int n46])), (bob, .inl (cbob, 8192, .inl f47)), (kn, .inr (5, [.ref tr, .ref kns, .ref knz, .ref knt, .ref knv, .int kn_length])), (pk, .inl (cpk, 4100, .inl gpk)), (pp, .inl (cpp, 4100, .inl gpp))]) [3, 4, 5, 6, 7, 0, 1, 2] (by decide) rfl
            exact tz_up (fun _ => rfl) (W.vret hx hb hr (fun t ht hW => ⟨⟨(f47, gpe, n46, h0_depth, h0_loopDepth, n36, kn_length, n37, n38), ⟨rfl, ⟨by (try dsimp only) <;> omega, bn36, b_kn_length, ⟨by (try dsimp only); have hI := hI.out; have hbl : bl f47 n46.toNatClampNeg = bl gbob bo_length.toNatClampNeg ++ [69, 13, 1] := (by rw [bn46 (by omega), bn43 (by omega), bn40 (by omega), List.append_assoc, List.append_assoc]; rfl); rw [hbl, eS2, ec]; rw [eS, pl_s (n := h0_pendingCount.toNatClampNeg) (m := n36.toNatClampNeg) (by have := i32_clamp (x := n36) (by omega); omega)] at hI; exact cI_test hI (by rw [xr32.2]; decide), by (try dsimp only) <;> omega⟩⟩⟩, by rw [ht]; exact hP9, va_K.moved hW.alike hK, hD9⟩, hS.F ht⟩) hS.2.2 d_CO_codeBranching_209)
          · skip
            by_cases g9_177 : x1.toInt = 18
            · have ho9 : tab_off 189 13 19 #[43, 86, 97, 119, 126, 168, 175] x1.toInt = 168 := by rw [g9_177]; rfl
              refine lv_tab (tgt := 177) hx hb d_CO_codeBranching_9 (by decide) ho9 (by decide) ?_
              clear ho9
              have h9 : (gpk p0.toNatClampNeg).toInt = 18 := by rw [← ex1]; omega
              have s9 := sI_18 hs.out h9
              obtain ⟨ec, eS⟩ := s9
              have q1 := hI.out.1
              rw [eS] at q1
              have q1 := cJ_pos q1 (by decide)
              have d18 : 2 ≤ h0_depth.toInt := by have q := hI.out.1; rw [eS] at q; obtain ⟨t8, Q8, -, -, q⟩ := q; have := cJ_b gS2 q; omega
              refine lv_aload_n hx hb d_CO_codeBranching_177 rfl (lv_at hl 0 rfl) ?_
              have hPc := hP.sub (ws' := [(h0, .inr (2, [.ref pr, .ref kn, .ref lt, .int h0_localCount, .ref pe, .int h0_pendingCount, .int h0_gives, .int h0_depth, .int h0_loopDepth, .ref to, .ref bo, .ref cs, .ref se])), (pe, .inl (cpe, 680, .inl gpe)), (bo, .inr (1, [.ref bob, .int bo_length])), (bob, .inl (cbob, 8192, .inl gbob))]) [0, 2, 3, 4] rfl
              have hDc := hD.sub (ws' := [(h0, .inr (2, [.ref pr, .ref kn, .ref lt, .int h0_localCount, .ref pe, .int h0_pendingCount, .int h0_gives, .int h0_depth, .int h0_loopDepth, .ref to, .ref bo, .ref cs, .ref se])), (pe, .inl (cpe, 680, .inl gpe)), (bo, .inr (1, [.ref bob, .int bo_length])), (bob, .inl (cbob, 8192, .inl gbob))]) [0, 2, 3, 4] (by decide) rfl
              have hKc := hK.sub (tys' := [(cpe, .int), (cbob, .byte)]) [0, 1] rfl
              have hFc := va_free (wc := [(h0, .inr (2, [.ref pr, .ref kn, .ref lt, .int h0_localCount, .ref pe, .int h0_pendingCount, .int h0_gives, .int h0_depth, .int h0_loopDepth, .ref to, .ref bo, .ref cs, .ref se])), (pe, .inl (cpe, 680, .inl gpe)), (bo, .inr (1, [.ref bob, .int bo_length])), (bob, .inl (cbob, 8192, .inl gbob))]) hD hS hA [0, 2, 3, 4] rfl
              refine va_callv (va_runV (As := []) (rest := []) ⟨hx, hb, hml, hown, hts⟩ (c_CO_endLoop l dC dI H.size h0 pr kn lt pe to bo cs se bob cpe cbob h0_localCount h0_pendingCount h0_gives h0_depth h0_loopDepth gpe bo_length gbob (b_h0_pendingCount) (b_bo_length) (by omega) (by omega) (by omega)) (cwV 0 hts (gV kM_CO_285 kV_CO_endLoop kS_CO_endLoop kI_CO kC_CO_endLoop) rfl rfl rfl (by decide +kernel) ⟨Nat.le_of_ble_eq_true rfl, Nat.le_of_ble_eq_true rfl⟩) ⟨fun a U g mk z => by obtain ⟨z0, z1, zP, zK, zD⟩ := z; exact ⟨z0, z1, zP, va_K.moved (u := U) (U := U.calling g mk a) (Vm.Alike.refl U.vm) zK, zD⟩, va_recv hKc hPc (ci := 2) (q0 := 0) rfl rfl, fun U hU hW => ⟨rfl, by rw [hU], by rw [hU]; exact hPc, va_K.moved hW.alike hKc, hDc.weaken (fun _ _ _ _ => trivial)⟩⟩ rfl rfl hl.1 rfl (lv_room (Nat.le_of_ble_eq_true rfl)) d_CO_codeBranching_178 ⟨(Nat.zero_le _), (Nat.zero_le _)⟩) hS (fun q _ h => hFc q h) hFc (fun u t H1 locs ht hvm hw hB hz1 hk1 hS => ?_)
              obtain ⟨n49, n50, n51, n52, n53⟩ := u
              try dsimp only at hw
              obtain ⟨bn50, bn53, xr48⟩ := hw
              try clear hw
              obtain ⟨hP1, hK1, hD1⟩ := hB
              rw [ht] at hP1
              obtain ⟨hP, hD⟩ := va_join (wr := [(pr, .inr (6, [.ref gl, .ref fu, .ref pa, .ref pf, .ref sf, .ref pk, .ref pg, .ref pp, .ref pz, .ref pv, .int pr_reason, .int pr_place, .ref pr_scanner_r, .int pr_stepCount, .int pr_open, .int pr_twoSides, .ref pr_waiting_r, .ref pr_waitingPlaces_r, .int pr_waitingCount])), (kn, .inr (5, [.ref tr, .ref kns, .ref knz, .ref knt, .ref knv, .int kn_length])), (pk, .inl (cpk, 4100, .inl gpk)), (pp, .inl (cpp, 4100, .inl gpp))]) (w1 := [(h0, .inr (2, [.ref pr, .ref kn, .ref lt, .int h0_localCount, .ref pe, .int n53, .int h0_gives, .int n51, .int n52, .ref to, .ref bo, .ref cs, .ref se])), (pe, .inl (cpe, 680, .inl gpe)), (bo, .inr (1, [.ref bob, .int n50])), (bob, .inl (cbob, 8192, .inl n49))]) hP hD [0, 2, 3, 4] [1, 5, 6, 7] rfl rfl (by decide) (by decide) hk1 hFc hP1 hD1
              clear hPc hDc hKc hFc hz1 hk1 hP1 hK1 hD1
              generalize H1 = H at hP hS ⊢
              have hP : va_P (dC, dI) cls [(pr, .inr (6, [.ref gl, .ref fu, .ref pa, .ref pf, .ref sf, .ref pk, .ref pg, .ref pp, .ref pz, .ref pv, .int pr_reason, .int pr_place, .ref pr_scanner_r, .int pr_stepCount, .int pr_open, .int pr_twoSides, .ref pr_waiting_r, .ref pr_waitingPlaces_r, .int pr_waitingCount])), (kn, .inr (5, [.ref tr, .ref kns, .ref knz, .ref knt, .ref knv, .int kn_length])), (pk, .inl (cpk, 4100, .inl gpk)), (pp, .inl (cpp, 4100, .inl gpp)), (h0, .inr (2, [.ref pr, .ref kn, .ref lt, .int h0_localCount, .ref pe, .int n53, .int h0_gives, .int n51, .int n52, .ref to, .ref bo, .ref cs, .ref se])), (pe, .inl (cpe, 680, .inl gpe)), (bo, .inr (1, [.ref bob, .int n50])), (bob, .inl (cbob, 8192, .inl n49))] H := hP
              have hD : va_D A [(pr, .inr (6, [.ref gl, .ref fu, .ref pa, .ref pf, .ref sf, .ref pk, .ref pg, .ref pp, .ref pz, .ref pv, .int pr_reason, .int pr_place, .ref pr_scanner_r, .int pr_stepCount, .int pr_open, .int pr_twoSides, .ref pr_waiting_r, .ref pr_waitingPlaces_r, .int pr_waitingCount])), (kn, .inr (5, [.ref tr, .ref kns, .ref knz, .ref knt, .ref knv, .int kn_length])), (pk, .inl (cpk, 4100, .inl gpk)), (pp, .inl (cpp, 4100, .inl gpp)), (h0, .inr (2, [.ref pr, .ref kn, .ref lt, .int h0_localCount, .ref pe, .int n53, .int h0_gives, .int n51, .int n52, .ref to, .ref bo, .ref cs, .ref se])), (pe, .inl (cpe, 680, .inl gpe)), (bo, .inr (1, [.ref bob, .int n50])), (bob, .inl (cbob, 8192, .inl n49))] := hD
              refine lv_goto (tgt := 209) hx hb d_CO_codeBranching_181 (by decide) ?_
              have hP9 := hP.sub (ws' := [(h0, .inr (2, [.ref pr, .ref kn, .ref lt, .int h0_localCount, .ref pe, .int n53, .int h0_gives, .int n51, .int n52, .ref to, .ref bo, .ref cs, .ref se])), (pr, .inr (6, [.ref gl, .ref fu, .ref pa, .ref pf, .ref sf, .ref pk, .ref pg, .ref pp, .ref pz, .ref pv, .int pr_reason, .int pr_place, .ref pr_scanner_r, .int pr_stepCount, .int pr_open, .int pr_twoSides, .ref pr_waiting_r, .ref pr_waitingPlaces_r, .int pr_waitingCount])), (pe, .inl (cpe, 680, .inl gpe)), (bo, .inr (1, [.ref bob, .int n50])), (bob, .inl (cbob, 8192, .inl n49)), (kn, .inr (5, [.ref tr, .ref kns, .ref knz, .ref knt, .ref knv, .int kn_length])), (pk, .inl (cpk, 4100, .inl gpk)), (pp, .inl (cpp, 4100, .inl gpp))]) [4, 0, 5, 6, 7, 1, 2, 3] rfl
              have hD9 := hD.sub (ws' := [(h0, .inr (2, [.ref pr, .ref kn, .ref lt, .int h0_localCount, .ref pe, .int n53, .int h0_gives, .int n51, .int n52, .ref to, .ref bo, .ref cs, .ref se])), (pr, .inr (6, [.ref gl, .ref fu, .ref pa, .ref pf, .ref sf, .ref pk, .ref pg, .ref pp, .ref pz, .ref pv, .int pr_reason, .int pr_place, .ref pr_scanner_r, .int pr_stepCount, .int pr_open, .int pr_twoSides, .ref pr_waiting_r, .ref pr_waitingPlaces_r, .int pr_waitingCount])), (pe, .inl (cpe, 680, .inl gpe)), (bo, .inr (1, [.ref bob, .int n50])), (bob, .inl (cbob, 8192, .inl n49)), (kn, .inr (5, [.ref tr, .ref kns, .ref knz, .ref knt, .ref knv, .int kn_length])), (pk, .inl (cpk, 4100, .inl gpk)), (pp, .inl (cpp, 4100, .inl gpp))]) [4, 0, 5, 6, 7, 1, 2, 3] (by decide) rfl
              exact tz_up (fun _ => rfl) (W.vret hx hb hr (fun t ht hW => ⟨⟨(n49, gpe, n50, n51, n52, n53, kn_length, pr_place, pr_reason), ⟨rfl, ⟨bn50, bn53, b_kn_length, ⟨by (try dsimp only); have hI := hI.out; rw [xr48.2.2.2, ec, show n51.toInt = h0_depth.toInt - 2 from xr48.2.1, xr48.1.2]; rw [eS, pl_s (n := h0_pendingCount.toNatClampNeg) (m := n53.toNatClampNeg) (by have := i32_clamp (x := n53) (by omega); omega)] at hI; exact cI_pool hI, by (try dsimp only) <;> omega⟩⟩⟩, by rw [ht]; exact hP9, va_K.moved hW.alike hK, hD9⟩, hS.F ht⟩) hS.2.2 d_CO_codeBranching_209)
            · skip
              by_cases g9_184 : x1.toInt = 19
              · have ho9 : tab_off 189 13 19 #[43, 86, 97, 119, 126, 168, 175] x1.toInt = 175 := by rw [g9_184]; rfl
                refine lv_tab (tgt := 184) hx hb d_CO_codeBranching_9 (by decide) ho9 (by decide) ?_
                clear ho9
                have h9 : (gpk p0.toNatClampNeg).toInt = 19 := by rw [← ex1]; omega
                have s9 := sI_19 hs.out h9
                obtain ⟨ec, eS2⟩ := s9
                have q2 : gS2.length = gS.length + 1 := by rw [eS2, List.length_cons]
                refine lv_aload_n hx hb d_CO_codeBranching_184 rfl (lv_at hl 0 rfl) ?_
                refine lv_aload_n hx hb d_CO_codeBranching_185 rfl (lv_at hl 0 rfl) ?_
                refine va_get (D := (dC, dI)) (ci := 2) (v := .ref kn) (C := R_CO) (T := F_CO) (N := 13) hx hb hts i_CO hown hK hP 0 rfl rfl 1 (by decide) (hts _ kF_CO_54) (fun _ h9 => h9) rfl d_CO_codeBranching_186 ?_
                refine va_get (D := (dC, dI)) (ci := 5) (v := .int kn_length) (C := R_NA) (T := F_NA) (N := 6) hx hb hts i_NA hown hK hP 5 rfl rfl 5 (by decide) (hts _ kF_CO_68) (fun _ h9 => h9) rfl d_CO_codeBranching_189 ?_
                have hPc := hP.sub (ws' := [(h0, .inr (2, [.ref pr, .ref kn, .ref lt, .int h0_localCount, .ref pe, .int h0_pendingCount, .int h0_gives, .int h0_depth, .int h0_loopDepth, .ref to, .ref bo, .ref cs, .ref se])), (pe, .inl (cpe, 680, .inl gpe))]) [0, 2] rfl
                have hDc := hD.sub (ws' := [(h0, .inr (2, [.ref pr, .ref kn, .ref lt, .int h0_localCount, .ref pe, .int h0_pendingCount, .int h0_gives, .int h0_depth, .int h0_loopDepth, .ref to, .ref bo, .ref cs, .ref se])), (pe, .inl (cpe, 680, .inl gpe))]) [0, 2] (by decide) rfl
                have hKc := hK.sub (tys' := [(cpe, .int)]) [0] rfl
                have hFc := va_free (wc := [(h0, .inr (2, [.ref pr, .ref kn, .ref lt, .int h0_localCount, .ref pe, .int h0_pendingCount, .int h0_gives, .int h0_depth, .int h0_loopDepth, .ref to, .ref bo, .ref cs, .ref se])), (pe, .inl (cpe, 680, .inl gpe))]) hD hS hA [0, 2] rfl
                refine va_callv (va_runV (As := [.int kn_length]) (rest := []) ⟨hx, hb, hml, hown, hts⟩ (c_CO_push l dC dI H.size h0 pr kn lt pe to bo cs se cpe h0_localCount h0_pendingCount h0_gives h0_depth h0_loopDepth gpe (b_h0_pendingCount) kn_length (by omega)) (cwV 1 hts (gV kM_CO_183 kV_CO_push kS_CO_push kI_CO kC_CO_push) rfl rfl rfl (by decide +kernel) ⟨Nat.le_of_ble_eq_true rfl, Nat.le_of_ble_eq_true rfl⟩) ⟨fun a U g mk z => by obtain ⟨z0, z1, zP, zK, zD⟩ := z; exact ⟨z0, z1, zP, va_K.moved (u := U) (U := U.calling g mk a) (Vm.Alike.refl U.vm) zK, zD⟩, va_recv hKc hPc (ci := 2) (q0 := 0) rfl rfl, fun U hU hW => ⟨rfl, by rw [hU], by rw [hU]; exact hPc, va_K.moved hW.alike hKc, hDc.weaken (fun _ _ _ _ => trivial)⟩⟩ rfl rfl hl.1 rfl (lv_room (Nat.le_of_ble_eq_true rfl)) d_CO_codeBranching_192 ⟨(Nat.zero_le _), (Nat.zero_le _)⟩) hS (fun q _ h => hFc q h) hFc (fun u t H1 locs ht hvm hw hB hz1 hk1 hS => ?_)
                obtain ⟨n55, n56⟩ := u
                try dsimp only at hw
                obtain ⟨bn56, xr54⟩ := hw
                try clear hw
                obtain ⟨hP1, hK1, hD1⟩ := hB
                rw [ht] at hP1
                obtain ⟨hP, hD⟩ := va_join (wr := [(pr, .inr (6, [.ref gl, .ref fu, .ref pa, .ref pf, .ref sf, .ref pk, .ref pg, .ref pp, .ref pz, .ref pv, .int pr_reason, .int pr_place, .ref pr_scanner_r, .int pr_stepCount, .int pr_open, .int pr_twoSides, .ref pr_waiting_r, .ref pr_waitingPlaces_r, .int pr_waitingCount])), (bo, .inr (1, [.ref bob, .int bo_length])), (bob, .inl (cbob, 8192, .inl gbob)), (kn, .inr (5, [.ref tr, .ref kns, .ref knz, .ref knt, .ref knv, .int kn_length])), (pk, .inl (cpk, 4100, .inl gpk)), (pp, .inl (cpp, 4100, .inl gpp))]) (w1 := [(h0, .inr (2, [.ref pr, .ref kn, .ref lt, .int h0_localCount, .ref pe, .int n56, .int h0_gives, .int h0_depth, .int h0_loopDepth, .ref to, .ref bo, .ref cs, .ref se])), (pe, .inl (cpe, 680, .inl n55))]) hP hD [0, 2] [1, 3, 4, 5, 6, 7] rfl rfl (by decide) (by decide) hk1 hFc hP1 hD1
                clear hPc hDc hKc hFc hz1 hk1 hP1 hK1 hD1
                generalize H1 = H at hP hS ⊢
                have hP : va_P (dC, dI) cls [(pr, .inr (6, [.ref gl, .ref fu, .ref pa, .ref pf, .ref sf, .ref pk, .ref pg, .ref pp, .ref pz, .ref pv, .int pr_reason, .int pr_place, .ref pr_scanner_r, .int pr_stepCount, .int pr_open, .int pr_twoSides, .ref pr_waiting_r, .ref pr_waitingPlaces_r, .int pr_waitingCount])), (bo, .inr (1, [.ref bob, .int bo_length])), (bob, .inl (cbob, 8192, .inl gbob)), (kn, .inr (5, [.ref tr, .ref kns, .ref knz, .ref knt, .ref knv, .int kn_length])), (pk, .inl (cpk, 4100, .inl gpk)), (pp, .inl (cpp, 4100, .inl gpp)), (h0, .inr (2, [.ref pr, .ref kn, .ref lt, .int h0_localCount, .ref pe, .int n56, .int h0_gives, .int h0_depth, .int h0_loopDepth, .ref to, .ref bo, .ref cs, .ref se])), (pe, .inl (cpe, 680, .inl n55))] H := hP
                have hD : va_D A [(pr, .inr (6, [.ref gl, .ref fu, .ref pa, .ref pf, .ref sf, .ref pk, .ref pg, .ref pp, .ref pz, .ref pv, .int pr_reason, .int pr_place, .ref pr_scanner_r, .int pr_stepCount, .int pr_open, .int pr_twoSides, .ref pr_waiting_r, .ref pr_waitingPlaces_r, .int pr_waitingCount])), (bo, .inr (1, [.ref bob, .int bo_length])), (bob, .inl (cbob, 8192, .inl gbob)), (kn, .inr (5, [.ref tr, .ref kns, .ref knz, .ref knt, .ref knv, .int kn_length])), (pk, .inl (cpk, 4100, .inl gpk)), (pp, .inl (cpp, 4100, .inl gpp)), (h0, .inr (2, [.ref pr, .ref kn, .ref lt, .int h0_localCount, .ref pe, .int n56, .int h0_gives, .int h0_depth, .int h0_loopDepth, .ref to, .ref bo, .ref cs, .ref se])), (pe, .inl (cpe, 680, .inl n55))] := hD
                refine lv_goto (tgt := 209) hx hb d_CO_codeBranching_195 (by decide) ?_
                have hP9 := hP.sub (ws' := [(h0, .inr (2, [.ref pr, .ref kn, .ref lt, .int h0_localCount, .ref pe, .int n56, .int h0_gives, .int h0_depth, .int h0_loopDepth, .ref to, .ref bo, .ref cs, .ref se])), (pr, .inr (6, [.ref gl, .ref fu, .ref pa, .ref pf, .ref sf, .ref pk, .ref pg, .ref pp, .ref pz, .ref pv, .int pr_reason, .int pr_place, .ref pr_scanner_r, .int pr_stepCount, .int pr_open, .int pr_twoSides, .ref pr_waiting_r, .ref pr_waitingPlaces_r, .int pr_waitingCount])), (pe, .inl (cpe, 680, .inl n55)), (bo, .inr (1, [.ref bob, .int bo_length])), (bob, .inl (cbob, 8192, .inl gbob)), (kn, .inr (5, [.ref tr, .ref kns, .ref knz, .ref knt, .ref knv, .int kn_length])), (pk, .inl (cpk, 4100, .inl gpk)), (pp, .inl (cpp, 4100, .inl gpp))]) [6, 0, 7, 1, 2, 3, 4, 5] rfl
                have hD9 := hD.sub (ws' := [(h0, .inr (2, [.ref pr, .ref kn, .ref lt, .int h0_localCount, .ref pe, .int n56, .int h0_gives, .int h0_depth, .int h0_loopDepth, .ref to, .ref bo, .ref cs, .ref se])), (pr, .inr (6, [.ref gl, .ref fu, .ref pa, .ref pf, .ref sf, .ref pk, .ref pg, .ref pp, .ref pz, .ref pv, .int pr_reason, .int pr_place, .ref pr_scanner_r, .int pr_stepCount, .int pr_open, .int pr_twoSides, .ref pr_waiting_r, .ref pr_waitingPlaces_r, .int pr_waitingCount])), (pe, .inl (cpe, 680, .inl n55)), (bo, .inr (1, [.ref bob, .int bo_length])), (bob, .inl (cbob, 8192, .inl gbob)), (kn, .inr (5, [.ref tr, .ref kns, .ref knz, .ref knt, .ref knv, .int kn_length])), (pk, .inl (cpk, 4100, .inl gpk)), (pp, .inl (cpp, 4100, .inl gpp))]) [6, 0, 7, 1, 2, 3, 4, 5] (by decide) rfl
                exact tz_up (fun _ => rfl) (W.vret hx hb hr (fun t ht hW => ⟨⟨(gbob, n55, bo_length, h0_depth, h0_loopDepth, n56, kn_length, pr_place, pr_reason), ⟨rfl, ⟨b_bo_length, bn56, b_kn_length, ⟨by (try dsimp only); have hI := hI.out; rw [eS2, ec, xr54.2, show n56.toNatClampNeg = h0_pendingCount.toNatClampNeg + 1 from clampN (by have := xr54.1; omega), pl_put]; exact cI_open hI, by (try dsimp only) <;> omega⟩⟩⟩, by rw [ht]; exact hP9, va_K.moved hW.alike hK, hD9⟩, hS.F ht⟩) hS.2.2 d_CO_codeBranching_209)
              · skip
                have ho9 : tab_off 189 13 19 #[43, 86, 97, 119, 126, 168, 175] x1.toInt = 189 := by
                  unfold tab_off
                  split
                  · rfl
                  · exfalso; omega
                refine lv_tab (tgt := 198) hx hb d_CO_codeBranching_9 (by decide) ho9 (by decide) ?_
                clear ho9
                have h9 : (gpk p0.toNatClampNeg).toInt = 20 := by rw [← ex1]; omega
                have s9 := sI_20 hs.out h9
                obtain ⟨ec, eS⟩ := s9
                have q1 := hI.out.1
                rw [eS] at q1
                have q1 := cJ_pos q1 (by decide)
                refine lv_aload_n hx hb d_CO_codeBranching_198 rfl (lv_at hl 0 rfl) ?_
                refine va_get (D := (dC, dI)) (ci := 2) (v := .ref kn) (C := R_CO) (T := F_CO) (N := 13) hx hb hts i_CO hown hK hP 0 rfl rfl 1 (by decide) (hts _ kF_CO_54) (fun _ h9 => h9) rfl d_CO_codeBranching_199 ?_
                refine lv_aload_n hx hb d_CO_codeBranching_202 rfl (lv_at hl 0 rfl) ?_
                have hPc := hP.sub (ws' := [(h0, .inr (2, [.ref pr, .ref kn, .ref lt, .int h0_localCount, .ref pe, .int h0_pendingCount, .int h0_gives, .int h0_depth, .int h0_loopDepth, .ref to, .ref bo, .ref cs, .ref se])), (pe, .inl (cpe, 680, .inl gpe))]) [0, 2] rfl
                have hDc := hD.sub (ws' := [(h0, .inr (2, [.ref pr, .ref kn, .ref lt, .int h0_localCount, .ref pe, .int h0_pendingCount, .int h0_gives, .int h0_depth, .int h0_loopDepth, .ref to, .ref bo, .ref cs, .ref se])), (pe, .inl (cpe, 680, .inl gpe))]) [0, 2] (by decide) rfl
                have hKc := hK.sub (tys' := [(cpe, .int)]) [0] rfl
                have hFc := va_free (wc := [(h0, .inr (2, [.ref pr, .ref kn, .ref lt, .int h0_localCount, .ref pe, .int h0_pendingCount, .int h0_gives, .int h0_depth, .int h0_loopDepth, .ref to, .ref bo, .ref cs, .ref se])), (pe, .inl (cpe, 680, .inl gpe))]) hD hS hA [0, 2] rfl
                refine va_calli (va_runV (As := []) (rest := [.ref kn]) ⟨hx, hb, hml, hown, hts⟩ (c_CO_pop l dC dI H.size h0 pr kn lt pe to bo cs se cpe h0_localCount h0_pendingCount h0_gives h0_depth h0_loopDepth gpe (b_h0_pendingCount) (by omega)) (cwV 0 hts (gV kM_CO_224 kV_CO_pop kS_CO_pop kI_CO kC_CO_pop) rfl rfl rfl (by decide +kernel) ⟨Nat.le_of_ble_eq_true rfl, Nat.le_of_ble_eq_true rfl⟩) ⟨fun a U g mk z => by obtain ⟨z0, z1, zP, zK, zD⟩ := z; exact ⟨z0, z1, zP, va_K.moved (u := U) (U := U.calling g mk a) (Vm.Alike.refl U.vm) zK, zD⟩, va_recv hKc hPc (ci := 2) (q0 := 0) rfl rfl, fun U hU hW => ⟨rfl, by rw [hU], by rw [hU]; exact hPc, va_K.moved hW.alike hKc, hDc.weaken (fun _ _ _ _ => trivial)⟩⟩ rfl rfl hl.1 rfl (lv_room (Nat.le_of_ble_eq_true rfl)) d_CO_codeBranching_203 ⟨(Nat.zero_le _), (Nat.zero_le _)⟩) hS (fun q _ h => hFc q h) hFc (fun r57 u t H1 locs ht hvm hw hB hz1 hk1 hS => ?_)
                obtain ⟨n58, rfl⟩ : ∃ z, z = u := ⟨_, rfl⟩
                try dsimp only at hw
                obtain ⟨bn58, xr57⟩ := hw
                try clear hw
                have hi8 := hI.out
                rw [eS, pl_s (n := h0_pendingCount.toNatClampNeg) (m := n58.toNatClampNeg) (by have := i32_clamp (x := n58) (by omega); omega)] at hi8
                have k206 := cI_shut hi8
                have k207 := k206.2
                rw [← xr57.2] at k207
                obtain ⟨hP1, hK1, hD1⟩ := hB
                rw [ht] at hP1
                obtain ⟨hP, hD⟩ := va_join (wr := [(pr, .inr (6, [.ref gl, .ref fu, .ref pa, .ref pf, .ref sf, .ref pk, .ref pg, .ref pp, .ref pz, .ref pv, .int pr_reason, .int pr_place, .ref pr_scanner_r, .int pr_stepCount, .int pr_open, .int pr_twoSides, .ref pr_waiting_r, .ref pr_waitingPlaces_r, .int pr_waitingCount])), (bo, .inr (1, [.ref bob, .int bo_length])), (bob, .inl (cbob, 8192, .inl gbob)), (kn, .inr (5, [.ref tr, .ref kns, .ref knz, .ref knt, .ref knv, .int kn_length])), (pk, .inl (cpk, 4100, .inl gpk)), (pp, .inl (cpp, 4100, .inl gpp))]) (w1 := [(h0, .inr (2, [.ref pr, .ref kn, .ref lt, .int h0_localCount, .ref pe, .int n58, .int h0_gives, .int h0_depth, .int h0_loopDepth, .ref to, .ref bo, .ref cs, .ref se])), (pe, .inl (cpe, 680, .inl gpe))]) hP hD [0, 2] [1, 3, 4, 5, 6, 7] rfl rfl (by decide) (by decide) hk1 hFc hP1 hD1
                clear hPc hDc hKc hFc hz1 hk1 hP1 hK1 hD1
                generalize H1 = H at hP hS ⊢
                have hP : va_P (dC, dI) cls [(pr, .inr (6, [.ref gl, .ref fu, .ref pa, .ref pf, .ref sf, .ref pk, .ref pg, .ref pp, .ref pz, .ref pv, .int pr_reason, .int pr_place, .ref pr_scanner_r, .int pr_stepCount, .int pr_open, .int pr_twoSides, .ref pr_waiting_r, .ref pr_waitingPlaces_r, .int pr_waitingCount])), (bo, .inr (1, [.ref bob, .int bo_length])), (bob, .inl (cbob, 8192, .inl gbob)), (kn, .inr (5, [.ref tr, .ref kns, .ref knz, .ref knt, .ref knv, .int kn_length])), (pk, .inl (cpk, 4100, .inl gpk)), (pp, .inl (cpp, 4100, .inl gpp)), (h0, .inr (2, [.ref pr, .ref kn, .ref lt, .int h0_localCount, .ref pe, .int n58, .int h0_gives, .int h0_depth, .int h0_loopDepth, .ref to, .ref bo, .ref cs, .ref se])), (pe, .inl (cpe, 680, .inl gpe))] H := hP
                have hD : va_D A [(pr, .inr (6, [.ref gl, .ref fu, .ref pa, .ref pf, .ref sf, .ref pk, .ref pg, .ref pp, .ref pz, .ref pv, .int pr_reason, .int pr_place, .ref pr_scanner_r, .int pr_stepCount, .int pr_open, .int pr_twoSides, .ref pr_waiting_r, .ref pr_waitingPlaces_r, .int pr_waitingCount])), (bo, .inr (1, [.ref bob, .int bo_length])), (bob, .inl (cbob, 8192, .inl gbob)), (kn, .inr (5, [.ref tr, .ref kns, .ref knz, .ref knt, .ref knv, .int kn_length])), (pk, .inl (cpk, 4100, .inl gpk)), (pp, .inl (cpp, 4100, .inl gpp)), (h0, .inr (2, [.ref pr, .ref kn, .ref lt, .int h0_localCount, .ref pe, .int n58, .int h0_gives, .int h0_depth, .int h0_loopDepth, .ref to, .ref bo, .ref cs, .ref se])), (pe, .inl (cpe, 680, .inl gpe))] := hD
                refine va_put (D := (dC, dI)) (ci := 5) (v := .int r57) (ty := .int) (C := R_NA) (T := F_NA) (N := 6) hx hb hts i_NA t_NA t_NA_ok n_NA hown hK hP hD hS 3 rfl rfl 5 (by decide) (hts _ kF_CO_68) (fun _ h9 => h9) rfl (by decide +kernel) rfl rfl (Nat.le_of_ble_eq_true rfl) d_CO_codeBranching_206 (fun H locs hP hD hS => ?_)
                have hP9 := hP.sub (ws' := [(h0, .inr (2, [.ref pr, .ref kn, .ref lt, .int h0_localCount, .ref pe, .int n58, .int h0_gives, .int h0_depth, .int h0_loopDepth, .ref to, .ref bo, .ref cs, .ref se])), (pr, .inr (6, [.ref gl, .ref fu, .ref pa, .ref pf, .ref sf, .ref pk, .ref pg, .ref pp, .ref pz, .ref pv, .int pr_reason, .int pr_place, .ref pr_scanner_r, .int pr_stepCount, .int pr_open, .int pr_twoSides, .ref pr_waiting_r, .ref pr_waitingPlaces_r, .int pr_waitingCount])), (pe, .inl (cpe, 680, .inl gpe)), (bo, .inr (1, [.ref bob, .int bo_length])), (bob, .inl (cbob, 8192, .inl gbob)), (kn, .inr (5, [.ref tr, .ref kns, .ref knz, .ref knt, .ref knv, .int r57])), (pk, .inl (cpk, 4100, .inl gpk)), (pp, .inl (cpp, 4100, .inl gpp))]) [6, 0, 7, 1, 2, 3, 4, 5] rfl
                have hD9 := hD.sub (ws' := [(h0, .inr (2, [.ref pr, .ref kn, .ref lt, .int h0_localCount, .ref pe, .int n58, .int h0_gives, .int h0_depth, .int h0_loopDepth, .ref to, .ref bo, .ref cs, .ref se])), (pr, .inr (6, [.ref gl, .ref fu, .ref pa, .ref pf, .ref sf, .ref pk, .ref pg, .ref pp, .ref pz, .ref pv, .int pr_reason, .int pr_place, .ref pr_scanner_r, .int pr_stepCount, .int pr_open, .int pr_twoSides, .ref pr_waiting_r, .ref pr_waitingPlaces_r, .int pr_waitingCount])), (pe, .inl (cpe, 680, .inl gpe)), (bo, .inr (1, [.ref bob, .int bo_length])), (bob, .inl (cbob, 8192, .inl gbob)), (kn, .inr (5, [.ref tr, .ref kns, .ref knz, .ref knt, .ref knv, .int r57])), (pk, .inl (cpk, 4100, .inl gpk)), (pp, .inl (cpp, 4100, .inl gpp))]) [6, 0, 7, 1, 2, 3, 4, 5] (by decide) rfl
                exact tz_up (fun _ => rfl) (W.vret hx hb hr (fun t ht hW => ⟨⟨(gbob, gpe, bo_length, h0_depth, h0_loopDepth, n58, r57, pr_place, pr_reason), ⟨rfl, ⟨b_bo_length, bn58, by (try dsimp only) <;> omega, ⟨by (try dsimp only); rw [ec, xr57.2]; exact k206.1, by (try dsimp only) <;> omega⟩⟩⟩, by rw [ht]; exact hP9, va_K.moved hW.alike hK, hD9⟩, hS.F ht⟩) hS.2.2 d_CO_codeBranching_209)

section q_74
/-! Coder: what opens and closes -/
def gvF (t : Nat → Int32) : Nat → Int := fun f => ga (t f).toInt
def tkF (p : Nat → Int32) : Nat → Int := fun f => (p (f + 1)).toInt - (p f).toInt
theorem sleb_z : ∀ (z : Nat) (k : Nat) (v : Int), 0 ≤ v → 1 ≤ z → v < 10 ^ z → (sleb k v).length ≤ z := by
  intro z
  induction z with
  | zero => intro k v _ h _; (first | (apply Int.le_antisymm <;> omega) | omega)
  | succ z ih =>
    intro k v h0 _ hv
    cases k with
    | zero => simp [sleb]
    | succ k =>
      by_cases q : v < -64 ∨ 63 < v
      · rw [sleb_go q, List.length_cons]
        have hz : 1 ≤ z := by
          cases z with
          | zero => exfalso; rw [show (10 : Int) ^ (0 + 1) = 10 from rfl] at hv; (first | (apply Int.le_antisymm <;> omega) | omega)
          | succ z => (first | (apply Int.le_antisymm <;> omega) | omega)
        have := ih k (v / 128) (by (first | (apply Int.le_antisymm <;> omega) | omega)) hz (by rw [Int.pow_succ] at hv; (first | (apply Int.le_antisymm <;> omega) | omega))
        (first | (apply Int.le_antisymm <;> omega) | omega)
      · rw [sleb_end (Or.inr (by (first | (apply Int.le_antisymm <;> omega) | omega))), List.length_singleton]
        (first | (apply Int.le_antisymm <;> omega) | omega)
theorem sleb_t {g : Nat} {z v : Int} (h : tkT g z v) (hg : g = 3 ∨ g = 4) : ((sleb 10 v).length : Int) ≤ z := by
  obtain ⟨h1, -, h3, h4, -⟩ := h
  have hz := h1 (by (first | (apply Int.le_antisymm <;> omega) | omega)) (by (first | (apply Int.le_antisymm <;> omega) | omega))
  unfold pt at *
  rcases hg with rfl | rfl
  · have := h3 rfl
    have := sleb_z z.toNat 10 v (by (first | (apply Int.le_antisymm <;> omega) | omega)) (by (first | (apply Int.le_antisymm <;> omega) | omega)) (by (first | (apply Int.le_antisymm <;> omega) | omega))
    (first | (apply Int.le_antisymm <;> omega) | omega)
  · have w := h4 rfl
    have := sleb_z (z - 1).toNat 10 v (by (first | (apply Int.le_antisymm <;> omega) | omega)) (by (first | (apply Int.le_antisymm <;> omega) | omega)) (by (first | (apply Int.le_antisymm <;> omega) | omega))
    (first | (apply Int.le_antisymm <;> omega) | omega)
theorem pl_s {pe : Nat → Int32} {n m : Nat} (h : n = m + 1) : pl pe n = (pe m).toInt :: pl pe m := by
  subst h
  rfl
theorem cJ_pos {x : Nat} {T : List Nat} {pe : Nat → Int32} {n : Nat} {K D L b : Int} (H : cJ (x :: T) (pl pe n) K D L b) (h : x ≠ 5 ∧ x ≠ 6) : 1 ≤ n := by
  cases n with
  | succ n => (first | (apply Int.le_antisymm <;> omega) | omega)
  | zero =>
    exfalso
    rcases x with _ | _ | _ | _ | _ | _ | _ | _ | _ | x
    all_goals first
      | exact absurd rfl h.1
      | exact absurd rfl h.2
      | (obtain ⟨t, Q, e, -⟩ := H; cases e)
theorem sI_0 {k : Int32} {g : Nat} {z : Int32} {v : Int64} {c : Int} {S S2 : List Nat} (h : sS k g z v c S S2) (e : k.toInt = 0) : (g = 3 ∨ g = 4) ∧ tkT g z.toInt v.toInt ∧ c = 5 + 5 * z.toInt ∧ S2 = 0 :: S := by
  unfold sS at h
  have h := h.2
  rw [e] at h
  exact h
theorem sI_1 {k : Int32} {g : Nat} {z : Int32} {v : Int64} {c : Int} {S S2 : List Nat} (h : sS k g z v c S S2) (e : k.toInt = 1) : g = 2 ∧ (1 ≤ z.toInt ∧ z.toInt ≤ 20) ∧ c = 10 ∧ S2 = 0 :: S := by
  unfold sS at h
  have h := h.2
  rw [e] at h
  exact h
theorem sI_2 {k : Int32} {g : Nat} {z : Int32} {v : Int64} {c : Int} {S S2 : List Nat} (h : sS k g z v c S S2) (e : k.toInt = 2) : ∃ T, S = 0 :: T ∧ ((g = 36 ∧ c = 25 ∧ S2 = 2 :: T) ∨ (g = 37 ∧ c = 10 ∧ S2 = 3 :: T)) := by
  unfold sS at h
  have h := h.2
  rw [e] at h
  exact h
theorem sI_3 {k : Int32} {g : Nat} {z : Int32} {v : Int64} {c : Int} {S S2 : List Nat} (h : sS k g z v c S S2) (e : k.toInt = 3) : ∃ T, S2 = 0 :: T ∧ ((g = 36 ∧ c = 24 ∧ S = 0 :: 2 :: T) ∨ (g = 37 ∧ c = 40 ∧ S = 0 :: 3 :: T) ∨ ((38 ≤ g ∧ g < 55) ∧ c = 10 ∧ S = 0 :: 0 :: T)) := by
  unfold sS at h
  have h := h.2
  rw [e] at h
  exact h
theorem sI_4 {k : Int32} {g : Nat} {z : Int32} {v : Int64} {c : Int} {S S2 : List Nat} (h : sS k g z v c S S2) (e : k.toInt = 4) : c = 10 ∧ S2 = 1 :: S := by
  unfold sS at h
  have h := h.2
  rw [e] at h
  exact h
theorem sI_5 {k : Int32} {g : Nat} {z : Int32} {v : Int64} {c : Int} {S S2 : List Nat} (h : sS k g z v c S S2) (e : k.toInt = 5) : ∃ T, S2 = 0 :: T ∧ ((g = 51 ∧ c = 10 ∧ S = 0 :: 1 :: T) ∨ ((g = 34 ∨ g = 35) ∧ c = 16 ∧ S = 0 :: T)) := by
  unfold sS at h
  have h := h.2
  rw [e] at h
  exact h
theorem sI_6 {k : Int32} {g : Nat} {z : Int32} {v : Int64} {c : Int} {S S2 : List Nat} (h : sS k g z v c S S2) (e : k.toInt = 6) : (g = 14 ∨ g = 15) ∧ c = 10 ∧ ∃ T, S = 0 :: T ∧ S2 = 0 :: T := by
  unfold sS at h
  have h := h.2
  rw [e] at h
  exact h
theorem sI_7 {k : Int32} {g : Nat} {z : Int32} {v : Int64} {c : Int} {S S2 : List Nat} (h : sS k g z v c S S2) (e : k.toInt = 7) : ∃ (T : List Nat) (n : Nat), v.toInt = n ∧ (n : Int) ≤ 8 ∧ S = List.replicate n 0 ++ T ∧ S2 = 0 :: T ∧ ((g = 2 ∧ (1 ≤ z.toInt ∧ z.toInt ≤ 20) ∧ c = 10) ∨ ((17 ≤ g ∧ g ≤ 25) ∧ c = 15)) := by
  unfold sS at h
  have h := h.2
  rw [e] at h
  exact h
theorem sI_8 {k : Int32} {g : Nat} {z : Int32} {v : Int64} {c : Int} {S S2 : List Nat} (h : sS k g z v c S S2) (e : k.toInt = 8) : (g = 14 ∨ g = 15) ∧ (1 ≤ z.toInt ∧ z.toInt ≤ 20) ∧ (0 ≤ v.toInt ∧ v.toInt ≤ 2000) ∧ c = 20 ∧ S = 0 :: S2 := by
  unfold sS at h
  have h := h.2
  rw [e] at h
  exact h
theorem sI_9 {k : Int32} {g : Nat} {z : Int32} {v : Int64} {c : Int} {S S2 : List Nat} (h : sS k g z v c S S2) (e : k.toInt = 9) : g = 2 ∧ (1 ≤ z.toInt ∧ z.toInt ≤ 20) ∧ c = 10 ∧ S = 0 :: S2 := by
  unfold sS at h
  have h := h.2
  rw [e] at h
  exact h
theorem sI_10 {k : Int32} {g : Nat} {z : Int32} {v : Int64} {c : Int} {S S2 : List Nat} (h : sS k g z v c S S2) (e : k.toInt = 10) : c = 10 ∧ S = 0 :: S2 := by
  unfold sS at h
  have h := h.2
  rw [e] at h
  exact h
theorem sI_11 {k : Int32} {g : Nat} {z : Int32} {v : Int64} {c : Int} {S S2 : List Nat} (h : sS k g z v c S S2) (e : k.toInt = 11) : c = 10 ∧ ((v = 0 ∧ S = S2) ∨ (v ≠ 0 ∧ S = 0 :: S2)) := by
  unfold sS at h
  have h := h.2
  rw [e] at h
  exact h
theorem sI_12 {k : Int32} {g : Nat} {z : Int32} {v : Int64} {c : Int} {S S2 : List Nat} (h : sS k g z v c S S2) (e : k.toInt = 12) : (g = 11 ∨ g = 12) ∧ c = 10 ∧ S = S2 := by
  unfold sS at h
  have h := h.2
  rw [e] at h
  exact h
theorem sI_13 {k : Int32} {g : Nat} {z : Int32} {v : Int64} {c : Int} {S S2 : List Nat} (h : sS k g z v c S S2) (e : k.toInt = 13) : c = 10 ∧ ∃ T, S = 0 :: T ∧ S2 = 5 :: T := by
  unfold sS at h
  have h := h.2
  rw [e] at h
  exact h
theorem sI_14 {k : Int32} {g : Nat} {z : Int32} {v : Int64} {c : Int} {S S2 : List Nat} (h : sS k g z v c S S2) (e : k.toInt = 14) : c = 10 ∧ ∃ T, S = 5 :: T ∧ S2 = 6 :: T := by
  unfold sS at h
  have h := h.2
  rw [e] at h
  exact h
theorem sI_15 {k : Int32} {g : Nat} {z : Int32} {v : Int64} {c : Int} {S S2 : List Nat} (h : sS k g z v c S S2) (e : k.toInt = 15) : c = 10 ∧ (S = 5 :: S2 ∨ S = 6 :: S2) := by
  unfold sS at h
  have h := h.2
  rw [e] at h
  exact h
theorem sI_16 {k : Int32} {g : Nat} {z : Int32} {v : Int64} {c : Int} {S S2 : List Nat} (h : sS k g z v c S S2) (e : k.toInt = 16) : c = 20 ∧ S2 = 7 :: S := by
  unfold sS at h
  have h := h.2
  rw [e] at h
  exact h
theorem sI_17 {k : Int32} {g : Nat} {z : Int32} {v : Int64} {c : Int} {S S2 : List Nat} (h : sS k g z v c S S2) (e : k.toInt = 17) : c = 16 ∧ ∃ T, S = 0 :: 7 :: T ∧ S2 = 8 :: T := by
  unfold sS at h
  have h := h.2
  rw [e] at h
  exact h
theorem sI_18 {k : Int32} {g : Nat} {z : Int32} {v : Int64} {c : Int} {S S2 : List Nat} (h : sS k g z v c S S2) (e : k.toInt = 18) : c = 24 ∧ S = 8 :: S2 := by
  unfold sS at h
  have h := h.2
  rw [e] at h
  exact h
theorem sI_19 {k : Int32} {g : Nat} {z : Int32} {v : Int64} {c : Int} {S S2 : List Nat} (h : sS k g z v c S S2) (e : k.toInt = 19) : c = 10 ∧ S2 = 4 :: S := by
  unfold sS at h
  have h := h.2
  rw [e] at h
  exact h
theorem sI_20 {k : Int32} {g : Nat} {z : Int32} {v : Int64} {c : Int} {S S2 : List Nat} (h : sS k g z v c S S2) (e : k.toInt = 20) : c = 10 ∧ S = 4 :: S2 := by
  unfold sS at h
  have h := h.2
  rw [e] at h
  exact h
theorem sS_rng {k : Int32} {g : Nat} {z : Int32} {v : Int64} {c : Int} {S S2 : List Nat} (h : sS k g z v c S S2) : 0 ≤ k.toInt ∧ k.toInt ≤ 20 := by
  unfold sS at h
  refine ⟨h.1, ?_⟩
  have h := h.2
  split at h <;> first | (first | (apply Int.le_antisymm <;> omega) | omega) | exact h.elim
abbrev b_CO_codeBranching : ByteArray := prog_4_method_16_code
def y_CO_codeBranching : MethodName := ⟨R_CO, "codeBranching", "(I)V"⟩
abbrev w_CO_codeBranching : List Cond := .code y_CO_codeBranching b_CO_codeBranching 2 none :: lw_g
theorem kC_CO_codeBranching : Cond.code y_CO_codeBranching b_CO_codeBranching 2 none ∈ lw_g := in_c6 0 rfl rfl
theorem d_CO_codeBranching_0 : decode b_CO_codeBranching 0 = .ok (.aload_n 0, 1) := bz_c42 (by decide +kernel)
theorem d_CO_codeBranching_1 : decode b_CO_codeBranching 1 = .ok (.getfield 36, 3) := bz_c180 (by decide +kernel)
theorem d_CO_codeBranching_4 : decode b_CO_codeBranching 4 = .ok (.getfield 143, 3) := bz_c180 (by decide +kernel)
theorem d_CO_codeBranching_7 : decode b_CO_codeBranching 7 = .ok (.iload_n 1, 1) := bz_c27 (by decide +kernel)
theorem d_CO_codeBranching_8 : decode b_CO_codeBranching 8 = .ok (.iaload, 1) := bz_c46 (by decide +kernel)
theorem d_CO_codeBranching_9 : decode b_CO_codeBranching 9 = .ok (.tableswitch 189 13 19 #[43, 86, 97, 119, 126, 168, 175], 43) := by decide +kernel
theorem d_CO_codeBranching_52 : decode b_CO_codeBranching 52 = .ok (.aload_n 0, 1) := bz_c42 (by decide +kernel)
theorem d_CO_codeBranching_53 : decode b_CO_codeBranching 53 = .ok (.aload_n 0, 1) := bz_c42 (by decide +kernel)
theorem d_CO_codeBranching_54 : decode b_CO_codeBranching 54 = .ok (.getfield 36, 3) := bz_c180 (by decide +kernel)
theorem d_CO_codeBranching_57 : decode b_CO_codeBranching 57 = .ok (.getfield 193, 3) := bz_c180 (by decide +kernel)
theorem d_CO_codeBranching_60 : decode b_CO_codeBranching 60 = .ok (.iload_n 1, 1) := bz_c27 (by decide +kernel)
theorem d_CO_codeBranching_61 : decode b_CO_codeBranching 61 = .ok (.iaload, 1) := bz_c46 (by decide +kernel)
theorem d_CO_codeBranching_62 : decode b_CO_codeBranching 62 = .ok (.invokevirtual 279, 3) := bz_c182 (by decide +kernel)
theorem d_CO_codeBranching_65 : decode b_CO_codeBranching 65 = .ok (.aload_n 0, 1) := bz_c42 (by decide +kernel)
theorem d_CO_codeBranching_66 : decode b_CO_codeBranching 66 = .ok (.getfield 26, 3) := bz_c180 (by decide +kernel)
theorem d_CO_codeBranching_69 : decode b_CO_codeBranching 69 = .ok (.iconst 4, 1) := bz_c7 (by decide +kernel)
theorem d_CO_codeBranching_70 : decode b_CO_codeBranching 70 = .ok (.invokevirtual 76, 3) := bz_c182 (by decide +kernel)
theorem d_CO_codeBranching_73 : decode b_CO_codeBranching 73 = .ok (.aload_n 0, 1) := bz_c42 (by decide +kernel)
theorem d_CO_codeBranching_74 : decode b_CO_codeBranching 74 = .ok (.getfield 26, 3) := bz_c180 (by decide +kernel)
theorem d_CO_codeBranching_77 : decode b_CO_codeBranching 77 = .ok (.bipush 64, 2) := bz_c16 (by decide +kernel)
theorem d_CO_codeBranching_79 : decode b_CO_codeBranching 79 = .ok (.invokevirtual 76, 3) := bz_c182 (by decide +kernel)
theorem d_CO_codeBranching_82 : decode b_CO_codeBranching 82 = .ok (.aload_n 0, 1) := bz_c42 (by decide +kernel)
theorem d_CO_codeBranching_83 : decode b_CO_codeBranching 83 = .ok (.dup, 1) := bz_c89 (by decide +kernel)
theorem d_CO_codeBranching_84 : decode b_CO_codeBranching 84 = .ok (.getfield 115, 3) := bz_c180 (by decide +kernel)
theorem d_CO_codeBranching_87 : decode b_CO_codeBranching 87 = .ok (.iconst 1, 1) := bz_c4 (by decide +kernel)
theorem d_CO_codeBranching_88 : decode b_CO_codeBranching 88 = .ok (.iadd, 1) := bz_c96 (by decide +kernel)
theorem d_CO_codeBranching_89 : decode b_CO_codeBranching 89 = .ok (.putfield 115, 3) := bz_c181 (by decide +kernel)
theorem d_CO_codeBranching_92 : decode b_CO_codeBranching 92 = .ok (.goto 117, 3) := bz_c167 (by decide +kernel)
theorem d_CO_codeBranching_95 : decode b_CO_codeBranching 95 = .ok (.aload_n 0, 1) := bz_c42 (by decide +kernel)
theorem d_CO_codeBranching_96 : decode b_CO_codeBranching 96 = .ok (.getfield 26, 3) := bz_c180 (by decide +kernel)
theorem d_CO_codeBranching_99 : decode b_CO_codeBranching 99 = .ok (.iconst 5, 1) := bz_c8 (by decide +kernel)
theorem d_CO_codeBranching_100 : decode b_CO_codeBranching 100 = .ok (.invokevirtual 76, 3) := bz_c182 (by decide +kernel)
theorem d_CO_codeBranching_103 : decode b_CO_codeBranching 103 = .ok (.goto 106, 3) := bz_c167 (by decide +kernel)
theorem d_CO_codeBranching_106 : decode b_CO_codeBranching 106 = .ok (.aload_n 0, 1) := bz_c42 (by decide +kernel)
theorem d_CO_codeBranching_107 : decode b_CO_codeBranching 107 = .ok (.getfield 26, 3) := bz_c180 (by decide +kernel)
theorem d_CO_codeBranching_110 : decode b_CO_codeBranching 110 = .ok (.bipush 11, 2) := bz_c16 (by decide +kernel)
theorem d_CO_codeBranching_112 : decode b_CO_codeBranching 112 = .ok (.invokevirtual 76, 3) := bz_c182 (by decide +kernel)
theorem d_CO_codeBranching_115 : decode b_CO_codeBranching 115 = .ok (.aload_n 0, 1) := bz_c42 (by decide +kernel)
theorem d_CO_codeBranching_116 : decode b_CO_codeBranching 116 = .ok (.dup, 1) := bz_c89 (by decide +kernel)
theorem d_CO_codeBranching_117 : decode b_CO_codeBranching 117 = .ok (.getfield 115, 3) := bz_c180 (by decide +kernel)
theorem d_CO_codeBranching_120 : decode b_CO_codeBranching 120 = .ok (.iconst 1, 1) := bz_c4 (by decide +kernel)
theorem d_CO_codeBranching_121 : decode b_CO_codeBranching 121 = .ok (.isub, 1) := bz_c100 (by decide +kernel)
theorem d_CO_codeBranching_122 : decode b_CO_codeBranching 122 = .ok (.putfield 115, 3) := bz_c181 (by decide +kernel)
theorem d_CO_codeBranching_125 : decode b_CO_codeBranching 125 = .ok (.goto 84, 3) := bz_c167 (by decide +kernel)
theorem d_CO_codeBranching_128 : decode b_CO_codeBranching 128 = .ok (.aload_n 0, 1) := bz_c42 (by decide +kernel)
theorem d_CO_codeBranching_129 : decode b_CO_codeBranching 129 = .ok (.invokevirtual 282, 3) := bz_c182 (by decide +kernel)
theorem d_CO_codeBranching_132 : decode b_CO_codeBranching 132 = .ok (.goto 77, 3) := bz_c167 (by decide +kernel)
theorem d_CO_codeBranching_135 : decode b_CO_codeBranching 135 = .ok (.aload_n 0, 1) := bz_c42 (by decide +kernel)
theorem d_CO_codeBranching_136 : decode b_CO_codeBranching 136 = .ok (.aload_n 0, 1) := bz_c42 (by decide +kernel)
theorem d_CO_codeBranching_137 : decode b_CO_codeBranching 137 = .ok (.getfield 36, 3) := bz_c180 (by decide +kernel)
theorem d_CO_codeBranching_140 : decode b_CO_codeBranching 140 = .ok (.getfield 193, 3) := bz_c180 (by decide +kernel)
theorem d_CO_codeBranching_143 : decode b_CO_codeBranching 143 = .ok (.iload_n 1, 1) := bz_c27 (by decide +kernel)
theorem d_CO_codeBranching_144 : decode b_CO_codeBranching 144 = .ok (.iaload, 1) := bz_c46 (by decide +kernel)
theorem d_CO_codeBranching_145 : decode b_CO_codeBranching 145 = .ok (.invokevirtual 279, 3) := bz_c182 (by decide +kernel)
theorem d_CO_codeBranching_148 : decode b_CO_codeBranching 148 = .ok (.aload_n 0, 1) := bz_c42 (by decide +kernel)
theorem d_CO_codeBranching_149 : decode b_CO_codeBranching 149 = .ok (.getfield 26, 3) := bz_c180 (by decide +kernel)
theorem d_CO_codeBranching_152 : decode b_CO_codeBranching 152 = .ok (.bipush 69, 2) := bz_c16 (by decide +kernel)
theorem d_CO_codeBranching_154 : decode b_CO_codeBranching 154 = .ok (.invokevirtual 76, 3) := bz_c182 (by decide +kernel)
theorem d_CO_codeBranching_157 : decode b_CO_codeBranching 157 = .ok (.aload_n 0, 1) := bz_c42 (by decide +kernel)
theorem d_CO_codeBranching_158 : decode b_CO_codeBranching 158 = .ok (.getfield 26, 3) := bz_c180 (by decide +kernel)
theorem d_CO_codeBranching_161 : decode b_CO_codeBranching 161 = .ok (.bipush 13, 2) := bz_c16 (by decide +kernel)
theorem d_CO_codeBranching_163 : decode b_CO_codeBranching 163 = .ok (.invokevirtual 76, 3) := bz_c182 (by decide +kernel)
theorem d_CO_codeBranching_166 : decode b_CO_codeBranching 166 = .ok (.aload_n 0, 1) := bz_c42 (by decide +kernel)
theorem d_CO_codeBranching_167 : decode b_CO_codeBranching 167 = .ok (.getfield 26, 3) := bz_c180 (by decide +kernel)
theorem d_CO_codeBranching_170 : decode b_CO_codeBranching 170 = .ok (.iconst 1, 1) := bz_c4 (by decide +kernel)
theorem d_CO_codeBranching_171 : decode b_CO_codeBranching 171 = .ok (.invokevirtual 76, 3) := bz_c182 (by decide +kernel)
theorem d_CO_codeBranching_174 : decode b_CO_codeBranching 174 = .ok (.goto 35, 3) := bz_c167 (by decide +kernel)
theorem d_CO_codeBranching_177 : decode b_CO_codeBranching 177 = .ok (.aload_n 0, 1) := bz_c42 (by decide +kernel)
theorem d_CO_codeBranching_178 : decode b_CO_codeBranching 178 = .ok (.invokevirtual 285, 3) := bz_c182 (by decide +kernel)
theorem d_CO_codeBranching_181 : decode b_CO_codeBranching 181 = .ok (.goto 28, 3) := bz_c167 (by decide +kernel)
theorem d_CO_codeBranching_184 : decode b_CO_codeBranching 184 = .ok (.aload_n 0, 1) := bz_c42 (by decide +kernel)
theorem d_CO_codeBranching_185 : decode b_CO_codeBranching 185 = .ok (.aload_n 0, 1) := bz_c42 (by decide +kernel)
theorem d_CO_codeBranching_186 : decode b_CO_codeBranching 186 = .ok (.getfield 54, 3) := bz_c180 (by decide +kernel)
theorem d_CO_codeBranching_189 : decode b_CO_codeBranching 189 = .ok (.getfield 68, 3) := bz_c180 (by decide +kernel)
theorem d_CO_codeBranching_192 : decode b_CO_codeBranching 192 = .ok (.invokevirtual 183, 3) := bz_c182 (by decide +kernel)
theorem d_CO_codeBranching_195 : decode b_CO_codeBranching 195 = .ok (.goto 14, 3) := bz_c167 (by decide +kernel)
theorem d_CO_codeBranching_198 : decode b_CO_codeBranching 198 = .ok (.aload_n 0, 1) := bz_c42 (by decide +kernel)
theorem d_CO_codeBranching_199 : decode b_CO_codeBranching 199 = .ok (.getfield 54, 3) := bz_c180 (by decide +kernel)
theorem d_CO_codeBranching_202 : decode b_CO_codeBranching 202 = .ok (.aload_n 0, 1) := bz_c42 (by decide +kernel)
theorem d_CO_codeBranching_203 : decode b_CO_codeBranching 203 = .ok (.invokevirtual 224, 3) := bz_c182 (by decide +kernel)
theorem d_CO_codeBranching_206 : decode b_CO_codeBranching 206 = .ok (.putfield 68, 3) := bz_c181 (by decide +kernel)
theorem d_CO_codeBranching_209 : decode b_CO_codeBranching 209 = .ok (.return_, 1) := bz_c177 (by decide +kernel)
theorem kM_CO_279 : Cond.methodLink R_CO 279 y_CO_takeCondition ∈ lw_g := in_c6 1 rfl rfl
theorem kV_CO_takeCondition : Cond.instanceMethod y_CO_takeCondition ∈ lw_g := in_c6 3 rfl rfl
theorem kS_CO_takeCondition : Cond.selects R_CO y_CO_takeCondition y_CO_takeCondition ∈ lw_g := in_s 48 (by decide +kernel) rfl
theorem kM_CO_282 : Cond.methodLink R_CO 282 y_CO_beginLoop ∈ lw_g := in_c6 5 rfl rfl
theorem kV_CO_beginLoop : Cond.instanceMethod y_CO_beginLoop ∈ lw_g := in_c6 7 rfl rfl
theorem kS_CO_beginLoop : Cond.selects R_CO y_CO_beginLoop y_CO_beginLoop ∈ lw_g := in_s 49 (by decide +kernel) rfl
theorem kM_CO_285 : Cond.methodLink R_CO 285 y_CO_endLoop ∈ lw_g := in_c6 9 rfl rfl
theorem kV_CO_endLoop : Cond.instanceMethod y_CO_endLoop ∈ lw_g := in_c6 11 rfl rfl
theorem kS_CO_endLoop : Cond.selects R_CO y_CO_endLoop y_CO_endLoop ∈ lw_g := in_s 50 (by decide +kernel) rfl
theorem kF_CO_143 : Cond.fieldLink R_CO 143 "WaferForge$Program" "kinds" "[I" ∈ lw_g := in_c2 111 rfl rfl
theorem kF_CO_68 : Cond.fieldLink R_CO 68 "WaferForge$Names" "length" "I" ∈ lw_g := in_c2 85 rfl rfl
abbrev at_CO_codeBranching (dC : Nat → ClassId) (dI : Nat → Nat → Nat) (sa : Nat → Nat) (h0 pr kn lt pe to bo cs se gl fu pa pf sf pk pg pp pz pv pr_scanner_r pr_waiting_r pr_waitingPlaces_r bob tr kns knz knt knv : Nat) (cpe cbob cpk cpp : ClassId) (h0_localCount : Int32) (h0_gives : Int32) (pr_stepCount : Int32) (pr_open : Int32) (pr_twoSides : Int32) (pr_waitingCount : Int32) (gpk : Nat → Int32) (gpp : Nat → Int32) (A : Nat → Prop) (u : (Nat → Int32) × (Nat → Int32) × Int32 × Int32 × Int32 × Int32 × Int32 × Int32 × Int32) (t : State) : Prop := match u with | (gbob, gpe, bo_length, h0_depth, h0_loopDepth, h0_pendingCount, kn_length, pr_place, pr_reason) => va_P (dC, dI) cls (wz_187 h0 pr kn lt h0_localCount pe h0_pendingCount h0_gives h0_depth h0_loopDepth to bo cs se pr gl fu pa pf sf pk pg pp pz pv pr_reason pr_place pr_scanner_r pr_stepCount pr_open pr_twoSides pr_waiting_r pr_waitingPlaces_r pr_waitingCount pe cpe gpe bo bob bo_length bob cbob gbob kn tr kns knz knt knv kn_length pk cpk gpk pp cpp gpp) t.heap ∧ va_K (dC, dI) cls [(cpe, .int), (cbob, .byte), (cpk, .int), (cpp, .int)] t ∧ va_D A (wz_187 h0 pr kn lt h0_localCount pe h0_pendingCount h0_gives h0_depth h0_loopDepth to bo cs se pr gl fu pa pf sf pk pg pp pz pv pr_reason pr_place pr_scanner_r pr_stepCount pr_open pr_twoSides pr_waiting_r pr_waitingPlaces_r pr_waitingCount pe cpe gpe bo bob bo_length bob cbob gbob kn tr kns knz knt knv kn_length pk cpk gpk pp cpp gpp)
set_option maxHeartbeats 4000000 in
set_option maxRecDepth 100000 in
theorem c_CO_codeBranching (l : Launch) (hlt : l.stackTraces = false) (dC : Nat → ClassId) (dI : Nat → Nat → Nat) (sz : Nat) (sa : Nat → Nat) (h0 pr kn lt pe to bo cs se gl fu pa pf sf pk pg pp pz pv pr_scanner_r pr_waiting_r pr_waitingPlaces_r bob tr kns knz knt knv : Nat) (cpe cbob cpk cpp : ClassId) (h0_localCount : Int32) (h0_pendingCount : Int32) (h0_gives : Int32) (h0_depth : Int32) (h0_loopDepth : Int32) (pr_reason : Int32) (pr_place : Int32) (pr_stepCount : Int32) (pr_open : Int32) (pr_twoSides : Int32) (pr_waitingCount : Int32) (gpe : Nat → Int32) (bo_length : Int32) (gbob : Nat → Int32) (kn_length : Int32) (gpk : Nat → Int32) (gpp : Nat → Int32) (gS : List Nat) (gS2 : List Nat) (gC : Int) (gc1 : Int) (ka : Nat) (gz : Int32) (gvv : Int64) (eV : Nat → Int) (eT : Nat → Int) (efc : Int) (egc : Int)  (b_h0_localCount : 0 ≤ h0_localCount.toInt ∧ h0_localCount.toInt ≤ 50) (b_h0_pendingCount : 0 ≤ h0_pendingCount.toInt ∧ h0_pendingCount.toInt ≤ 680) (b_bo_length : 0 ≤ bo_length.toInt ∧ bo_length.toInt ≤ 8192) (b_kn_length : 0 ≤ kn_length.toInt ∧ kn_length.toInt ≤ 50) (p0 : Int32)  (hi : 0 ≤ p0.toInt ∧ p0.toInt < 4100) (hkd : 13 ≤ (gpk p0.toNatClampNeg).toInt ∧ (gpk p0.toNatClampNeg).toInt ≤ 20) (hI : bx (cI h0_localCount.toInt eV eT efc egc h0_gives.toInt gS (pl gpe h0_pendingCount.toNatClampNeg) (bl gbob bo_length.toNatClampNeg) kn_length.toInt h0_depth.toInt h0_loopDepth.toInt gC)) (hs : bx (sS (gpk p0.toNatClampNeg) ka gz gvv gc1 gS gS2)) (hlm : bx (lm gS ∧ lm gS2)) (hcc : gC + gc1 ≤ 40000) : tz_Met l y_CO_codeBranching w_CO_codeBranching ({ frames := 8, cells := 1, slots := 6, locals := 133 }) (va_Pc [.ref h0, .int p0] (fun U => U.heap.size = sz ∧ va_P (dC, dI) cls (wz_187 h0 pr kn lt h0_localCount pe h0_pendingCount h0_gives h0_depth h0_loopDepth to bo cs se pr gl fu pa pf sf pk pg pp pz pv pr_reason pr_place pr_scanner_r pr_stepCount pr_open pr_twoSides pr_waiting_r pr_waitingPlaces_r pr_waitingCount pe cpe gpe bo bob bo_length bob cbob gbob kn tr kns knz knt knv kn_length pk cpk gpk pp cpp gpp) U.heap ∧ va_K (dC, dI) cls [(cpe, .int), (cbob, .byte), (cpk, .int), (cpp, .int)] U ∧ va_D (fun _ => True) (wz_187 h0 pr kn lt h0_localCount pe h0_pendingCount h0_gives h0_depth h0_loopDepth to bo cs se pr gl fu pa pf sf pk pg pp pz pv pr_reason pr_place pr_scanner_r pr_stepCount pr_open pr_twoSides pr_waiting_r pr_waitingPlaces_r pr_waitingCount pe cpe gpe bo bob bo_length bob cbob gbob kn tr kns knz knt knv kn_length pk cpk gpk pp cpp gpp) ∧ sw sa (va_A (wz_187 h0 pr kn lt h0_localCount pe h0_pendingCount h0_gives h0_depth h0_loopDepth to bo cs se pr gl fu pa pf sf pk pg pp pz pv pr_reason pr_place pr_scanner_r pr_stepCount pr_open pr_twoSides pr_waiting_r pr_waitingPlaces_r pr_waitingCount pe cpe gpe bo bob bo_length bob cbob gbob kn tr kns knz knt knv kn_length pk cpk gpk pp cpp gpp) sz) U U.heap)) (tq_Q (tq_v (fun (u : (Nat → Int32) × (Nat → Int32) × Int32 × Int32 × Int32 × Int32 × Int32 × Int32 × Int32) => match u with | (gbob2, gpe2, bo_length2, h0_depth2, h0_loopDepth2, h0_pendingCount2, kn_length2, pr_place2, pr_reason2) => (0 ≤ bo_length2.toInt ∧ bo_length2.toInt ≤ 8192) ∧ (0 ≤ h0_pendingCount2.toInt ∧ h0_pendingCount2.toInt ≤ 680) ∧ (0 ≤ kn_length2.toInt ∧ kn_length2.toInt ≤ 50) ∧ (cI h0_localCount.toInt eV eT efc egc h0_gives.toInt gS2 (pl gpe2 h0_pendingCount2.toNatClampNeg) (bl gbob2 bo_length2.toNatClampNeg) kn_length2.toInt h0_depth2.toInt h0_loopDepth2.toInt (gC + gc1) ∧ kn_length2.toInt ≤ kn_length.toInt)) "java/lang/UnsupportedOperationException" (fun (u : (Nat → Int32) × (Nat → Int32) × Int32 × Int32 × Int32 × Int32 × Int32 × Int32 × Int32) => match u with | (gbob2, gpe2, bo_length2, h0_depth2, h0_loopDepth2, h0_pendingCount2, kn_length2, pr_place2, pr_reason2) => (0 ≤ bo_length2.toInt ∧ bo_length2.toInt ≤ 8192) ∧ (0 ≤ h0_pendingCount2.toInt ∧ h0_pendingCount2.toInt ≤ 680) ∧ (0 ≤ kn_length2.toInt ∧ kn_length2.toInt ≤ 50))) (at_CO_codeBranching dC dI sa h0 pr kn lt pe to bo cs se gl fu pa pf sf pk pg pp pz pv pr_scanner_r pr_waiting_r pr_waitingPlaces_r bob tr kns knz knt knv cpe cbob cpk cpp h0_localCount h0_gives pr_stepCount pr_open pr_twoSides pr_waitingCount gpk gpp (va_A (wz_187 h0 pr kn lt h0_localCount pe h0_pendingCount h0_gives h0_depth h0_loopDepth to bo cs se pr gl fu pa pf sf pk pg pp pz pv pr_reason pr_place pr_scanner_r pr_stepCount pr_open pr_twoSides pr_waiting_r pr_waitingPlaces_r pr_waitingCount pe cpe gpe bo bob bo_length bob cbob gbob kn tr kns knz knt knv kn_length pk cpk gpk pp cpp gpp) sz)) (va_A (wz_187 h0 pr kn lt h0_localCount pe h0_pendingCount h0_gives h0_depth h0_loopDepth to bo cs se pr gl fu pa pf sf pk pg pp pz pv pr_reason pr_place pr_scanner_r pr_stepCount pr_open pr_twoSides pr_waiting_r pr_waitingPlaces_r pr_waitingCount pe cpe gpe bo bob bo_length bob cbob gbob kn tr kns knz knt knv kn_length pk cpk gpk pp cpp gpp) sz)) (tz_k 0 0 1 6) (va_A (wz_187 h0 pr kn lt h0_localCount pe h0_pendingCount h0_gives h0_depth h0_loopDepth to bo cs se pr gl fu pa pf sf pk pg pp pz pv pr_reason pr_place pr_scanner_r pr_stepCount pr_open pr_twoSides pr_waiting_r pr_waitingPlaces_r pr_waitingCount pe cpe gpe bo bob bo_length bob cbob gbob kn tr kns knz knt knv kn_length pk cpk gpk pp cpp gpp) sz) := by
  refine tz_ofW (cc := b_CO_codeBranching) (maxL := 2) (ret := none) (by decide) rfl ?_
  intro p e s m args below meth c s₁ B hml hno hv
  obtain ⟨rfl, hsz, hP, hK, hD0, hSW⟩ := hv
  have hx := B.exec
  have hb := B.bytes
  have hr := B.returns
  have hts0 := atoms_spec (ws := w_CO_codeBranching) B.pre
  have hts : ∀ w ∈ lw_g, w.before _ s = true := fun w h => hts0 w (List.mem_cons_of_mem _ h)
  have hown : s.vm.findClass R_CO = some m.cls := findClass_of_methodNamed B.named
  have hlocks := B.notSynchronized
  clear hts0
  subst hsz
  have hD := hD0.self (sz := s.heap.size)
  generalize hAe : va_A (wz_187 h0 pr kn lt h0_localCount pe h0_pendingCount h0_gives h0_depth h0_loopDepth to bo cs se pr gl fu pa pf sf pk pg pp pz pv pr_reason pr_place pr_scanner_r pr_stepCount pr_open pr_twoSides pr_waiting_r pr_waitingPlaces_r pr_waitingCount pe cpe gpe bo bob bo_length bob cbob gbob kn tr kns knz knt knv kn_length pk cpk gpk pp cpp gpp) s.heap.size = A at hD hSW ⊢
  have hA : ∀ q : Nat, s.heap.size ≤ q → A q := fun q h => by rw [← hAe]; exact Or.inr h
  clear hAe
  have hP : va_P (dC, dI) cls (wz_187 h0 pr kn lt h0_localCount pe h0_pendingCount h0_gives h0_depth h0_loopDepth to bo cs se pr gl fu pa pf sf pk pg pp pz pv pr_reason pr_place pr_scanner_r pr_stepCount pr_open pr_twoSides pr_waiting_r pr_waitingPlaces_r pr_waitingCount pe cpe gpe bo bob bo_length bob cbob gbob kn tr kns knz knt knv kn_length pk cpk gpk pp cpp gpp) s.heap := hP
  have hl := lv_entry ([.ref h0, .int p0]) (n := 2) (Nat.le_of_ble_eq_true rfl)
  rw [lg_entry_eq]
  generalize (lg_sl ([.ref h0, .int p0]) ++ List.replicate (2 - (lg_sl ([.ref h0, .int p0])).length) Slot.unset).toArray = ls at hl ⊢
  have hl : lv_has ls 2 [(0, .ref h0), (1, .int p0)] := hl
  have k0 : (0 : Int32).toInt = 0 := by decide
  refine w_gen (A := A) hP (fun H locs hP hS => ?_)
  have k1 : (1 : Int32).toInt = 1 := by decide
  have k4 : (4 : Int32).toInt = 4 := by decide
  have k5 : (5 : Int32).toInt = 5 := by decide
  have k11 : (11 : Int32).toInt = 11 := by decide
  have k13 : (13 : Int32).toInt = 13 := by decide
  have k64 : (64 : Int32).toInt = 64 := by decide
  have k69 : (69 : Int32).toInt = 69 := by decide
  have lo_p0 := i32_lo p0
  have hi_p0 := i32_hi p0
  have jb := cJ_b gS hI.out.1
  rw [pl_len, bl_len] at jb
  have j5 := hI.out.2.1.1
  rw [bl_len] at j5
  have zc := i32_clamp (x := h0_pendingCount) (by (first | (apply Int.le_antisymm <;> omega) | omega))
  have zb := i32_clamp (x := bo_length) (by (first | (apply Int.le_antisymm <;> omega) | omega))
  have hl1 := hlm.out.1
  have hl2 := hlm.out.2
  unfold lm at hl1 hl2
  have hc10 := sS_cost hs.out
  refine lv_aload_n hx hb d_CO_codeBranching_0 rfl (lv_at hl 0 rfl) ?_
  refine va_get (D := (dC, dI)) (ci := 2) (v := .ref pr) (C := R_CO) (T := F_CO) (N := 13) hx hb hts i_CO hown hK hP 0 rfl rfl 0 (by decide) (hts _ kF_CO_36) (fun _ h9 => h9) rfl d_CO_codeBranching_1 ?_
  refine va_get (D := (dC, dI)) (ci := 6) (v := .ref pk) (C := R_PR) (T := F_PR) (N := 19) hx hb hts i_PR hown hK hP 1 rfl rfl 5 (by decide) (hts _ kF_CO_143) (fun _ h9 => h9) rfl d_CO_codeBranching_4 ?_
  refine lv_iload_n hx hb d_CO_codeBranching_7 rfl (lv_at hl 1 rfl) ?_
  have g8 : vp_in p0 4100 := vp_in_iff.mpr ⟨by (first | (apply Int.le_antisymm <;> omega) | omega), by (first | (apply Int.le_antisymm <;> omega) | omega)⟩
  refine va_iald hx hb hK hP 6 2 rfl rfl g8 d_CO_codeBranching_8 ?_
  refine lv_topi (fun x1 ex1 => ?_)
  have tx1 := hkd
  rw [← ex1] at tx1
  by_cases g9_52 : x1.toInt = 13
  · have ho9 : tab_off 189 13 19 #[43, 86, 97, 119, 126, 168, 175] x1.toInt = 43 := by rw [g9_52]; rfl
    refine lv_tab (tgt := 52) hx hb d_CO_codeBranching_9 (by decide) ho9 (by decide) ?_
    clear ho9
    have h9 : (gpk p0.toNatClampNeg).toInt = 13 := by rw [← ex1]; (first | (apply Int.le_antisymm <;> omega) | omega)
    have s9 := sI_13 hs.out h9
    obtain ⟨ec, T9, eS, eS2⟩ := s9
    have q1 := hI.out.1
    rw [eS] at q1
    have q1 := cJ_pos q1 (by decide)
    refine lv_aload_n hx hb d_CO_codeBranching_52 rfl (lv_at hl 0 rfl) ?_
    refine lv_aload_n hx hb d_CO_codeBranching_53 rfl (lv_at hl 0 rfl) ?_
    refine va_get (D := (dC, dI)) (ci := 2) (v := .ref pr) (C := R_CO) (T := F_CO) (N := 13) hx hb hts i_CO hown hK hP 0 rfl rfl 0 (by decide) (hts _ kF_CO_36) (fun _ h9 => h9) rfl d_CO_codeBranching_54 ?_
    refine va_get (D := (dC, dI)) (ci := 6) (v := .ref pp) (C := R_PR) (T := F_PR) (N := 19) hx hb hts i_PR hown hK hP 1 rfl rfl 7 (by decide) (hts _ kF_CO_193) (fun _ h9 => h9) rfl d_CO_codeBranching_57 ?_
    refine lv_iload_n hx hb d_CO_codeBranching_60 rfl (lv_at hl 1 rfl) ?_
    have g61 : vp_in p0 4100 := vp_in_iff.mpr ⟨by (first | (apply Int.le_antisymm <;> omega) | omega), by (first | (apply Int.le_antisymm <;> omega) | omega)⟩
    refine va_iald hx hb hK hP 7 3 rfl rfl g61 d_CO_codeBranching_61 ?_
    refine lv_topi (fun x2 ex2 => ?_)
    have hPc := hP.sb (wq := (wz_154 h0 pr kn lt h0_localCount pe h0_pendingCount h0_gives h0_depth h0_loopDepth to bo cs se pr gl fu pa pf sf pk pg pp pz pv pr_reason pr_place pr_scanner_r pr_stepCount pr_open pr_twoSides pr_waiting_r pr_waitingPlaces_r pr_waitingCount pe cpe gpe)) [0, 1, 2] rfl
    have hDc := hD.sb (wq := (wz_154 h0 pr kn lt h0_localCount pe h0_pendingCount h0_gives h0_depth h0_loopDepth to bo cs se pr gl fu pa pf sf pk pg pp pz pv pr_reason pr_place pr_scanner_r pr_stepCount pr_open pr_twoSides pr_waiting_r pr_waitingPlaces_r pr_waitingCount pe cpe gpe)) [0, 1, 2] (by decide) rfl
    have hKc := hK.sb (tyq := [(cpe, .int)]) [0] rfl
    have hFc := va_free (wc := (wz_154 h0 pr kn lt h0_localCount pe h0_pendingCount h0_gives h0_depth h0_loopDepth to bo cs se pr gl fu pa pf sf pk pg pp pz pv pr_reason pr_place pr_scanner_r pr_stepCount pr_open pr_twoSides pr_waiting_r pr_waitingPlaces_r pr_waitingCount pe cpe gpe)) hD hS hA [0, 1, 2] rfl
    refine tq_callv (tz_runV (As := [.int x2]) (rest := []) ⟨hx, hb, hml, hown, hts⟩ (c_CO_takeCondition l hlt dC dI H.size sa h0 pr kn lt pe to bo cs se gl fu pa pf sf pk pg pp pz pv pr_scanner_r pr_waiting_r pr_waitingPlaces_r cpe h0_localCount h0_pendingCount h0_gives h0_depth h0_loopDepth pr_reason pr_place pr_stepCount pr_open pr_twoSides pr_waitingCount gpe (b_h0_pendingCount) x2 (by (first | (apply Int.le_antisymm <;> omega) | omega))) (cwV 1 hts (gV kM_CO_279 kV_CO_takeCondition kS_CO_takeCondition kI_CO kC_CO_takeCondition) rfl rfl rfl (by decide +kernel) ⟨Nat.le_of_ble_eq_true rfl, Nat.le_of_ble_eq_true rfl⟩) ⟨fun a U g mk z => by obtain ⟨z0, z1, zP, zK, zD, zS⟩ := z; exact ⟨z0, z1, zP, va_K.moved (u := U) (U := U.calling g mk a) (Vm.Alike.refl U.vm) zK, zD, sw.same (u := U) (U := U.calling g mk a) rfl zS⟩, va_recv hKc hPc (ci := 2) (q0 := 0) rfl rfl, fun U hU hW => ⟨rfl, by rw [hU], va_P.he hU.symm hPc, va_K.moved hW.alike hKc, hDc.weaken (fun _ _ _ _ => trivial), hSW.call hS hFc hW hU⟩⟩ rfl rfl hl.1 rfl (lv_room (Nat.le_of_ble_eq_true rfl)) d_CO_codeBranching_62 ⟨Nat.le_of_ble_eq_true rfl, Nat.le_of_ble_eq_true rfl⟩) hS (fun q _ h => hFc q h) hFc (fun u t H1 locs ht hvm hw hB hz1 hk1 hS => ?_) (fun xx u t H1 locs ht hvm hw hXX hB hz1 hk1 hS => ?_)
    rotate_left
    · skip
      obtain ⟨n4, n5, n6⟩ := u
      try dsimp only at hw
      have bn4 := hw
      obtain ⟨hP1, hK1, hD1⟩ := hB
      replace hP1 := va_P.he ht hP1
      obtain ⟨hP, hD⟩ := va_join (wr := (wz_188 bo bob bo_length bob cbob gbob kn tr kns knz knt knv kn_length pk cpk gpk pp cpp gpp)) (w1 := (wz_154 h0 pr kn lt h0_localCount pe n4 h0_gives h0_depth h0_loopDepth to bo cs se pr gl fu pa pf sf pk pg pp pz pv n6 n5 pr_scanner_r pr_stepCount pr_open pr_twoSides pr_waiting_r pr_waitingPlaces_r pr_waitingCount pe cpe gpe)) hP hD [0, 1, 2] [3, 4, 5, 6, 7] rfl rfl (by decide) (by decide) hk1 hFc hP1 hD1
      have hP : va_P (dC, dI) cls (wz_189 bo bob bo_length bob cbob gbob kn tr kns knz knt knv kn_length pk cpk gpk pp cpp gpp h0 pr kn lt h0_localCount pe n4 h0_gives h0_depth h0_loopDepth to bo cs se pr gl fu pa pf sf pk pg pp pz pv n6 n5 pr_scanner_r pr_stepCount pr_open pr_twoSides pr_waiting_r pr_waitingPlaces_r pr_waitingCount pe cpe gpe) H1 := hP
      have hD : va_D A (wz_189 bo bob bo_length bob cbob gbob kn tr kns knz knt knv kn_length pk cpk gpk pp cpp gpp h0 pr kn lt h0_localCount pe n4 h0_gives h0_depth h0_loopDepth to bo cs se pr gl fu pa pf sf pk pg pp pz pv n6 n5 pr_scanner_r pr_stepCount pr_open pr_twoSides pr_waiting_r pr_waitingPlaces_r pr_waitingCount pe cpe gpe) := hD
      have hP9 := hP.sb (wq := (wz_187 h0 pr kn lt h0_localCount pe n4 h0_gives h0_depth h0_loopDepth to bo cs se pr gl fu pa pf sf pk pg pp pz pv n6 n5 pr_scanner_r pr_stepCount pr_open pr_twoSides pr_waiting_r pr_waitingPlaces_r pr_waitingCount pe cpe gpe bo bob bo_length bob cbob gbob kn tr kns knz knt knv kn_length pk cpk gpk pp cpp gpp)) [5, 6, 7, 0, 1, 2, 3, 4] rfl
      have hD9 := hD.sb (wq := (wz_187 h0 pr kn lt h0_localCount pe n4 h0_gives h0_depth h0_loopDepth to bo cs se pr gl fu pa pf sf pk pg pp pz pv n6 n5 pr_scanner_r pr_stepCount pr_open pr_twoSides pr_waiting_r pr_waitingPlaces_r pr_waitingCount pe cpe gpe bo bob bo_length bob cbob gbob kn tr kns knz knt knv kn_length pk cpk gpk pp cpp gpp)) [5, 6, 7, 0, 1, 2, 3, 4] (by decide) rfl
      exact tz_leave rfl hno hlocks (fun t ht hW => ⟨⟨(gbob, gpe, bo_length, h0_depth, h0_loopDepth, n4, kn_length, n5, n6), ⟨⟨b_bo_length, bn4, b_kn_length⟩, by rw [ht]; exact hXX.moved hW.alike⟩, va_P.he ht.symm hP9, va_K.moved hW.alike hK, hD9⟩, hS.F ht⟩) hS.2.2
    obtain ⟨n7, n8, n9⟩ := u
    try dsimp only at hw
    obtain ⟨bn7, xr3⟩ := hw
    try clear hw
    obtain ⟨hP1, hK1, hD1⟩ := hB
    replace hP1 := va_P.he ht hP1
    obtain ⟨hP, hD⟩ := va_join (wr := (wz_188 bo bob bo_length bob cbob gbob kn tr kns knz knt knv kn_length pk cpk gpk pp cpp gpp)) (w1 := (wz_154 h0 pr kn lt h0_localCount pe n7 h0_gives h0_depth h0_loopDepth to bo cs se pr gl fu pa pf sf pk pg pp pz pv n9 n8 pr_scanner_r pr_stepCount pr_open pr_twoSides pr_waiting_r pr_waitingPlaces_r pr_waitingCount pe cpe gpe)) hP hD [0, 1, 2] [3, 4, 5, 6, 7] rfl rfl (by decide) (by decide) hk1 hFc hP1 hD1
    clear hPc hDc hKc hFc hz1 hk1 hP1 hK1 hD1
    rename Heap => H
    have hP : va_P (dC, dI) cls (wz_189 bo bob bo_length bob cbob gbob kn tr kns knz knt knv kn_length pk cpk gpk pp cpp gpp h0 pr kn lt h0_localCount pe n7 h0_gives h0_depth h0_loopDepth to bo cs se pr gl fu pa pf sf pk pg pp pz pv n9 n8 pr_scanner_r pr_stepCount pr_open pr_twoSides pr_waiting_r pr_waitingPlaces_r pr_waitingCount pe cpe gpe) H := hP
    have hD : va_D A (wz_189 bo bob bo_length bob cbob gbob kn tr kns knz knt knv kn_length pk cpk gpk pp cpp gpp h0 pr kn lt h0_localCount pe n7 h0_gives h0_depth h0_loopDepth to bo cs se pr gl fu pa pf sf pk pg pp pz pv n9 n8 pr_scanner_r pr_stepCount pr_open pr_twoSides pr_waiting_r pr_waitingPlaces_r pr_waitingCount pe cpe gpe) := hD
    refine lv_aload_n hx hb d_CO_codeBranching_65 rfl (lv_at hl 0 rfl) ?_
    refine va_get (D := (dC, dI)) (ci := 2) (v := .ref bo) (C := R_CO) (T := F_CO) (N := 13) hx hb hts i_CO hown hK hP 5 rfl rfl 10 (by decide) (hts _ kF_CO_26) (fun _ h9 => h9) rfl d_CO_codeBranching_66 ?_
    refine lv_iconst (v := 4) hx hb d_CO_codeBranching_69 (by decide) ?_
    have hPc := hP.sb (wq := (wz_94 bo bob bo_length bob cbob gbob)) [0, 1] rfl
    have hDc := hD.sb (wq := (wz_94 bo bob bo_length bob cbob gbob)) [0, 1] (by decide) rfl
    have hKc := hK.sb (tyq := [(cbob, .byte)]) [1] rfl
    have hFc := va_free (wc := (wz_94 bo bob bo_length bob cbob gbob)) hD hS hA [0, 1] rfl
    refine va_callv (va_runV (As := [.int 4]) (rest := []) ⟨hx, hb, hml, hown, hts⟩ (c_BR_put l dC dI bo bob H.size cbob 8192 bo_length gbob (by (first | (apply Int.le_antisymm <;> omega) | omega)) (by (first | (apply Int.le_antisymm <;> omega) | omega)) (by (first | (apply Int.le_antisymm <;> omega) | omega)) 4) (cwV 1 hts (gV kM_CO_76 kV_BR_put kS_BR_put kI_BR kC_BR_put) rfl rfl rfl (by decide +kernel) ⟨Nat.le_of_ble_eq_true rfl, Nat.le_of_ble_eq_true rfl⟩) ⟨fun a U g mk z => by obtain ⟨z0, z1, zP, zK, zD⟩ := z; exact ⟨z0, z1, zP, va_K.moved (u := U) (U := U.calling g mk a) (Vm.Alike.refl U.vm) zK, zD⟩, va_recv hKc hPc (ci := 1) (q0 := 0) rfl rfl, fun U hU hW => ⟨rfl, by rw [hU], va_P.he hU.symm hPc, va_K.moved hW.alike hKc, hDc.weaken (fun _ _ _ _ => trivial)⟩⟩ rfl rfl hl.1 rfl (lv_room (Nat.le_of_ble_eq_true rfl)) d_CO_codeBranching_70 ⟨(Nat.zero_le _), (Nat.zero_le _)⟩) hS (fun q _ h => hFc q h) hFc (fun u t H1 locs ht hvm hw hB hz1 hk1 hS => ?_)
    obtain ⟨n11, f12⟩ := u
    try dsimp only at hw
    have tn11 := br_put_in (by (first | (apply Int.le_antisymm <;> omega) | omega)) (by (first | (apply Int.le_antisymm <;> omega) | omega)) (by (first | (apply Int.le_antisymm <;> omega) | omega)) hw
    have bn11 := br_put_bl (by (first | (apply Int.le_antisymm <;> omega) | omega)) (by (first | (apply Int.le_antisymm <;> omega) | omega)) (by (first | (apply Int.le_antisymm <;> omega) | omega)) hw
    obtain ⟨hP1, hK1, hD1⟩ := hB
    replace hP1 := va_P.he ht hP1
    obtain ⟨hP, hD⟩ := va_join (wr := (wz_190 kn tr kns knz knt knv kn_length pk cpk gpk pp cpp gpp h0 pr kn lt h0_localCount pe n7 h0_gives h0_depth h0_loopDepth to bo cs se pr gl fu pa pf sf pk pg pp pz pv n9 n8 pr_scanner_r pr_stepCount pr_open pr_twoSides pr_waiting_r pr_waitingPlaces_r pr_waitingCount pe cpe gpe)) (w1 := (wz_94 bo bob n11 bob cbob f12)) hP hD [0, 1] [2, 3, 4, 5, 6, 7] rfl rfl (by decide) (by decide) hk1 hFc hP1 hD1
    clear hPc hDc hKc hFc hz1 hk1 hP1 hK1 hD1
    rename Heap => H
    have hP : va_P (dC, dI) cls (wz_191 kn tr kns knz knt knv kn_length pk cpk gpk pp cpp gpp h0 pr kn lt h0_localCount pe n7 h0_gives h0_depth h0_loopDepth to bo cs se pr gl fu pa pf sf pk pg pp pz pv n9 n8 pr_scanner_r pr_stepCount pr_open pr_twoSides pr_waiting_r pr_waitingPlaces_r pr_waitingCount pe cpe gpe bo bob n11 bob cbob f12) H := hP
    have hD : va_D A (wz_191 kn tr kns knz knt knv kn_length pk cpk gpk pp cpp gpp h0 pr kn lt h0_localCount pe n7 h0_gives h0_depth h0_loopDepth to bo cs se pr gl fu pa pf sf pk pg pp pz pv n9 n8 pr_scanner_r pr_stepCount pr_open pr_twoSides pr_waiting_r pr_waitingPlaces_r pr_waitingCount pe cpe gpe bo bob n11 bob cbob f12) := hD
    refine lv_aload_n hx hb d_CO_codeBranching_73 rfl (lv_at hl 0 rfl) ?_
    refine va_get (D := (dC, dI)) (ci := 2) (v := .ref bo) (C := R_CO) (T := F_CO) (N := 13) hx hb hts i_CO hown hK hP 3 rfl rfl 10 (by decide) (hts _ kF_CO_26) (fun _ h9 => h9) rfl d_CO_codeBranching_74 ?_
    refine lv_bipush (v := 64) hx hb d_CO_codeBranching_77 (by decide) ?_
    have hPc := hP.sb (wq := (wz_94 bo bob n11 bob cbob f12)) [6, 7] rfl
    have hDc := hD.sb (wq := (wz_94 bo bob n11 bob cbob f12)) [6, 7] (by decide) rfl
    have hKc := hK.sb (tyq := [(cbob, .byte)]) [1] rfl
    have hFc := va_free (wc := (wz_94 bo bob n11 bob cbob f12)) hD hS hA [6, 7] rfl
    refine va_callv (va_runV (As := [.int 64]) (rest := []) ⟨hx, hb, hml, hown, hts⟩ (c_BR_put l dC dI bo bob H.size cbob 8192 n11 f12 (by (first | (apply Int.le_antisymm <;> omega) | omega)) (by (first | (apply Int.le_antisymm <;> omega) | omega)) (by (first | (apply Int.le_antisymm <;> omega) | omega)) 64) (cwV 1 hts (gV kM_CO_76 kV_BR_put kS_BR_put kI_BR kC_BR_put) rfl rfl rfl (by decide +kernel) ⟨Nat.le_of_ble_eq_true rfl, Nat.le_of_ble_eq_true rfl⟩) ⟨fun a U g mk z => by obtain ⟨z0, z1, zP, zK, zD⟩ := z; exact ⟨z0, z1, zP, va_K.moved (u := U) (U := U.calling g mk a) (Vm.Alike.refl U.vm) zK, zD⟩, va_recv hKc hPc (ci := 1) (q0 := 0) rfl rfl, fun U hU hW => ⟨rfl, by rw [hU], va_P.he hU.symm hPc, va_K.moved hW.alike hKc, hDc.weaken (fun _ _ _ _ => trivial)⟩⟩ rfl rfl hl.1 rfl (lv_room (Nat.le_of_ble_eq_true rfl)) d_CO_codeBranching_79 ⟨(Nat.zero_le _), (Nat.zero_le _)⟩) hS (fun q _ h => hFc q h) hFc (fun u t H1 locs ht hvm hw hB hz1 hk1 hS => ?_)
    obtain ⟨n14, f15⟩ := u
    try dsimp only at hw
    have tn14 := br_put_in (by (first | (apply Int.le_antisymm <;> omega) | omega)) (by (first | (apply Int.le_antisymm <;> omega) | omega)) (by (first | (apply Int.le_antisymm <;> omega) | omega)) hw
    have bn14 := br_put_bl (by (first | (apply Int.le_antisymm <;> omega) | omega)) (by (first | (apply Int.le_antisymm <;> omega) | omega)) (by (first | (apply Int.le_antisymm <;> omega) | omega)) hw
    obtain ⟨hP1, hK1, hD1⟩ := hB
    replace hP1 := va_P.he ht hP1
    obtain ⟨hP, hD⟩ := va_join (wr := (wz_190 kn tr kns knz knt knv kn_length pk cpk gpk pp cpp gpp h0 pr kn lt h0_localCount pe n7 h0_gives h0_depth h0_loopDepth to bo cs se pr gl fu pa pf sf pk pg pp pz pv n9 n8 pr_scanner_r pr_stepCount pr_open pr_twoSides pr_waiting_r pr_waitingPlaces_r pr_waitingCount pe cpe gpe)) (w1 := (wz_94 bo bob n14 bob cbob f15)) hP hD [6, 7] [0, 1, 2, 3, 4, 5] rfl rfl (by decide) (by decide) hk1 hFc hP1 hD1
    clear hPc hDc hKc hFc hz1 hk1 hP1 hK1 hD1
    rename Heap => H
    have hP : va_P (dC, dI) cls (wz_191 kn tr kns knz knt knv kn_length pk cpk gpk pp cpp gpp h0 pr kn lt h0_localCount pe n7 h0_gives h0_depth h0_loopDepth to bo cs se pr gl fu pa pf sf pk pg pp pz pv n9 n8 pr_scanner_r pr_stepCount pr_open pr_twoSides pr_waiting_r pr_waitingPlaces_r pr_waitingCount pe cpe gpe bo bob n14 bob cbob f15) H := hP
    have hD : va_D A (wz_191 kn tr kns knz knt knv kn_length pk cpk gpk pp cpp gpp h0 pr kn lt h0_localCount pe n7 h0_gives h0_depth h0_loopDepth to bo cs se pr gl fu pa pf sf pk pg pp pz pv n9 n8 pr_scanner_r pr_stepCount pr_open pr_twoSides pr_waiting_r pr_waitingPlaces_r pr_waitingCount pe cpe gpe bo bob n14 bob cbob f15) := hD
    refine lv_aload_n hx hb d_CO_codeBranching_82 rfl (lv_at hl 0 rfl) ?_
    refine lv_dup hx hb d_CO_codeBranching_83 rfl ?_
    refine va_get (D := (dC, dI)) (ci := 2) (v := .int h0_depth) (C := R_CO) (T := F_CO) (N := 13) hx hb hts i_CO hown hK hP 3 rfl rfl 7 (by decide) (hts _ kF_CO_115) (fun _ h9 => h9) rfl d_CO_codeBranching_84 ?_
    refine lv_iconst (v := 1) hx hb d_CO_codeBranching_87 (by decide) ?_
    refine lv_iadd hx hb d_CO_codeBranching_88 ?_
    refine lv_topi (fun x16 ex16 => ?_)
    have tx16 : x16.toInt = h0_depth.toInt + 1 := by have z := i32_add ex16 (by (first | (apply Int.le_antisymm <;> omega) | omega)) (by (first | (apply Int.le_antisymm <;> omega) | omega)); first | exact z | (first | (apply Int.le_antisymm <;> omega) | omega)
    refine va_put (D := (dC, dI)) (ci := 2) (v := .int x16) (ty := .int) (C := R_CO) (T := F_CO) (N := 13) hx hb hts i_CO t_CO t_CO_ok n_CO hown hK hP hD hS 3 rfl rfl 7 (by decide) (hts _ kF_CO_115) (fun _ h9 => h9) rfl (by decide +kernel) rfl rfl (Nat.le_of_ble_eq_true rfl) d_CO_codeBranching_89 (fun H locs hP hD hS => ?_)
    refine lv_goto (tgt := 209) hx hb d_CO_codeBranching_92 (by decide) ?_
    have hP9 := hP.sb (wq := (wz_187 h0 pr kn lt h0_localCount pe n7 h0_gives x16 h0_loopDepth to bo cs se pr gl fu pa pf sf pk pg pp pz pv n9 n8 pr_scanner_r pr_stepCount pr_open pr_twoSides pr_waiting_r pr_waitingPlaces_r pr_waitingCount pe cpe gpe bo bob n14 bob cbob f15 kn tr kns knz knt knv kn_length pk cpk gpk pp cpp gpp)) [3, 4, 5, 6, 7, 0, 1, 2] rfl
    have hD9 := hD.sb (wq := (wz_187 h0 pr kn lt h0_localCount pe n7 h0_gives x16 h0_loopDepth to bo cs se pr gl fu pa pf sf pk pg pp pz pv n9 n8 pr_scanner_r pr_stepCount pr_open pr_twoSides pr_waiting_r pr_waitingPlaces_r pr_waitingCount pe cpe gpe bo bob n14 bob cbob f15 kn tr kns knz knt knv kn_length pk cpk gpk pp cpp gpp)) [3, 4, 5, 6, 7, 0, 1, 2] (by decide) rfl
    exact tz_up (fun _ => rfl) (W.vret hx hb hr (fun t ht hW => ⟨⟨(f15, gpe, n14, x16, h0_loopDepth, n7, kn_length, n8, n9), ⟨rfl, ⟨by (try dsimp only) <;> (first | (apply Int.le_antisymm <;> omega) | omega), bn7, b_kn_length, ⟨by (try dsimp only); have hI := hI.out; have hbl : bl f15 n14.toNatClampNeg = bl gbob bo_length.toNatClampNeg ++ [4, 64] := (by rw [bn14 (by (first | (apply Int.le_antisymm <;> omega) | omega)), bn11 (by (first | (apply Int.le_antisymm <;> omega) | omega)), List.append_assoc]; rfl); rw [hbl, eS2, ec]; rw [show x16.toInt = h0_depth.toInt + 1 from by (first | (apply Int.le_antisymm <;> omega) | omega)]; rw [eS, pl_s (n := h0_pendingCount.toNatClampNeg) (m := n7.toNatClampNeg) (by have := i32_clamp (x := n7) (by (first | (apply Int.le_antisymm <;> omega) | omega)); (first | (apply Int.le_antisymm <;> omega) | omega))] at hI; exact cI_then hI (by rw [xr3.2]; decide) (by rw [← eS2]; exact hl2.2), by (try dsimp only) <;> (first | (apply Int.le_antisymm <;> omega) | omega)⟩⟩⟩, va_P.he ht.symm hP9, va_K.moved hW.alike hK, hD9⟩, hS.F ht⟩) hS.2.2 d_CO_codeBranching_209)
  · skip
    by_cases g9_95 : x1.toInt = 14
    · have ho9 : tab_off 189 13 19 #[43, 86, 97, 119, 126, 168, 175] x1.toInt = 86 := by rw [g9_95]; rfl
      refine lv_tab (tgt := 95) hx hb d_CO_codeBranching_9 (by decide) ho9 (by decide) ?_
      clear ho9
      have h9 : (gpk p0.toNatClampNeg).toInt = 14 := by rw [← ex1]; (first | (apply Int.le_antisymm <;> omega) | omega)
      have s9 := sI_14 hs.out h9
      obtain ⟨ec, T9, eS, eS2⟩ := s9
      refine lv_aload_n hx hb d_CO_codeBranching_95 rfl (lv_at hl 0 rfl) ?_
      refine va_get (D := (dC, dI)) (ci := 2) (v := .ref bo) (C := R_CO) (T := F_CO) (N := 13) hx hb hts i_CO hown hK hP 0 rfl rfl 10 (by decide) (hts _ kF_CO_26) (fun _ h9 => h9) rfl d_CO_codeBranching_96 ?_
      refine lv_iconst (v := 5) hx hb d_CO_codeBranching_99 (by decide) ?_
      have hPc := hP.sb (wq := (wz_94 bo bob bo_length bob cbob gbob)) [3, 4] rfl
      have hDc := hD.sb (wq := (wz_94 bo bob bo_length bob cbob gbob)) [3, 4] (by decide) rfl
      have hKc := hK.sb (tyq := [(cbob, .byte)]) [1] rfl
      have hFc := va_free (wc := (wz_94 bo bob bo_length bob cbob gbob)) hD hS hA [3, 4] rfl
      refine va_callv (va_runV (As := [.int 5]) (rest := []) ⟨hx, hb, hml, hown, hts⟩ (c_BR_put l dC dI bo bob H.size cbob 8192 bo_length gbob (by (first | (apply Int.le_antisymm <;> omega) | omega)) (by (first | (apply Int.le_antisymm <;> omega) | omega)) (by (first | (apply Int.le_antisymm <;> omega) | omega)) 5) (cwV 1 hts (gV kM_CO_76 kV_BR_put kS_BR_put kI_BR kC_BR_put) rfl rfl rfl (by decide +kernel) ⟨Nat.le_of_ble_eq_true rfl, Nat.le_of_ble_eq_true rfl⟩) ⟨fun a U g mk z => by obtain ⟨z0, z1, zP, zK, zD⟩ := z; exact ⟨z0, z1, zP, va_K.moved (u := U) (U := U.calling g mk a) (Vm.Alike.refl U.vm) zK, zD⟩, va_recv hKc hPc (ci := 1) (q0 := 0) rfl rfl, fun U hU hW => ⟨rfl, by rw [hU], va_P.he hU.symm hPc, va_K.moved hW.alike hKc, hDc.weaken (fun _ _ _ _ => trivial)⟩⟩ rfl rfl hl.1 rfl (lv_room (Nat.le_of_ble_eq_true rfl)) d_CO_codeBranching_100 ⟨(Nat.zero_le _), (Nat.zero_le _)⟩) hS (fun q _ h => hFc q h) hFc (fun u t H1 locs ht hvm hw hB hz1 hk1 hS => ?_)
      obtain ⟨n18, f19⟩ := u
      try dsimp only at hw
      have tn18 := br_put_in (by (first | (apply Int.le_antisymm <;> omega) | omega)) (by (first | (apply Int.le_antisymm <;> omega) | omega)) (by (first | (apply Int.le_antisymm <;> omega) | omega)) hw
      have bn18 := br_put_bl (by (first | (apply Int.le_antisymm <;> omega) | omega)) (by (first | (apply Int.le_antisymm <;> omega) | omega)) (by (first | (apply Int.le_antisymm <;> omega) | omega)) hw
      obtain ⟨hP1, hK1, hD1⟩ := hB
      replace hP1 := va_P.he ht hP1
      obtain ⟨hP, hD⟩ := va_join (wr := [(h0, .inr (2, [.ref pr, .ref kn, .ref lt, .int h0_localCount, .ref pe, .int h0_pendingCount, .int h0_gives, .int h0_depth, .int h0_loopDepth, .ref to, .ref bo, .ref cs, .ref se])), (pr, .inr (6, [.ref gl, .ref fu, .ref pa, .ref pf, .ref sf, .ref pk, .ref pg, .ref pp, .ref pz, .ref pv, .int pr_reason, .int pr_place, .ref pr_scanner_r, .int pr_stepCount, .int pr_open, .int pr_twoSides, .ref pr_waiting_r, .ref pr_waitingPlaces_r, .int pr_waitingCount])), (pe, .inl (cpe, 680, .inl gpe)), (kn, .inr (5, [.ref tr, .ref kns, .ref knz, .ref knt, .ref knv, .int kn_length])), (pk, .inl (cpk, 4100, .inl gpk)), (pp, .inl (cpp, 4100, .inl gpp))]) (w1 := (wz_94 bo bob n18 bob cbob f19)) hP hD [3, 4] [0, 1, 2, 5, 6, 7] rfl rfl (by decide) (by decide) hk1 hFc hP1 hD1
      clear hPc hDc hKc hFc hz1 hk1 hP1 hK1 hD1
      rename Heap => H
      have hP : va_P (dC, dI) cls (wz_192 h0 pr kn lt h0_localCount pe h0_pendingCount h0_gives h0_depth h0_loopDepth to bo cs se pr gl fu pa pf sf pk pg pp pz pv pr_reason pr_place pr_scanner_r pr_stepCount pr_open pr_twoSides pr_waiting_r pr_waitingPlaces_r pr_waitingCount pe cpe gpe kn tr kns knz knt knv kn_length pk cpk gpk pp cpp gpp bo bob n18 bob cbob f19) H := hP
      have hD : va_D A (wz_192 h0 pr kn lt h0_localCount pe h0_pendingCount h0_gives h0_depth h0_loopDepth to bo cs se pr gl fu pa pf sf pk pg pp pz pv pr_reason pr_place pr_scanner_r pr_stepCount pr_open pr_twoSides pr_waiting_r pr_waitingPlaces_r pr_waitingCount pe cpe gpe kn tr kns knz knt knv kn_length pk cpk gpk pp cpp gpp bo bob n18 bob cbob f19) := hD
      refine lv_goto (tgt := 209) hx hb d_CO_codeBranching_103 (by decide) ?_
      have hP9 := hP.sb (wq := (wz_187 h0 pr kn lt h0_localCount pe h0_pendingCount h0_gives h0_depth h0_loopDepth to bo cs se pr gl fu pa pf sf pk pg pp pz pv pr_reason pr_place pr_scanner_r pr_stepCount pr_open pr_twoSides pr_waiting_r pr_waitingPlaces_r pr_waitingCount pe cpe gpe bo bob n18 bob cbob f19 kn tr kns knz knt knv kn_length pk cpk gpk pp cpp gpp)) [0, 1, 2, 6, 7, 3, 4, 5] rfl
      have hD9 := hD.sb (wq := (wz_187 h0 pr kn lt h0_localCount pe h0_pendingCount h0_gives h0_depth h0_loopDepth to bo cs se pr gl fu pa pf sf pk pg pp pz pv pr_reason pr_place pr_scanner_r pr_stepCount pr_open pr_twoSides pr_waiting_r pr_waitingPlaces_r pr_waitingCount pe cpe gpe bo bob n18 bob cbob f19 kn tr kns knz knt knv kn_length pk cpk gpk pp cpp gpp)) [0, 1, 2, 6, 7, 3, 4, 5] (by decide) rfl
      exact tz_up (fun _ => rfl) (W.vret hx hb hr (fun t ht hW => ⟨⟨(f19, gpe, n18, h0_depth, h0_loopDepth, h0_pendingCount, kn_length, pr_place, pr_reason), ⟨rfl, ⟨by (try dsimp only) <;> (first | (apply Int.le_antisymm <;> omega) | omega), b_h0_pendingCount, b_kn_length, ⟨by (try dsimp only); have hI := hI.out; have hbl : bl f19 n18.toNatClampNeg = bl gbob bo_length.toNatClampNeg ++ [5] := (by rw [bn18 (by (first | (apply Int.le_antisymm <;> omega) | omega))]; rfl); rw [hbl, eS2, ec]; rw [eS] at hI; exact cI_else hI, by (try dsimp only) <;> (first | (apply Int.le_antisymm <;> omega) | omega)⟩⟩⟩, va_P.he ht.symm hP9, va_K.moved hW.alike hK, hD9⟩, hS.F ht⟩) hS.2.2 d_CO_codeBranching_209)
    · skip
      by_cases g9_106 : x1.toInt = 15
      · have ho9 : tab_off 189 13 19 #[43, 86, 97, 119, 126, 168, 175] x1.toInt = 97 := by rw [g9_106]; rfl
        refine lv_tab (tgt := 106) hx hb d_CO_codeBranching_9 (by decide) ho9 (by decide) ?_
        clear ho9
        have h9 : (gpk p0.toNatClampNeg).toInt = 15 := by rw [← ex1]; (first | (apply Int.le_antisymm <;> omega) | omega)
        have s9 := sI_15 hs.out h9
        obtain ⟨ec, eS⟩ := s9
        have d15 : 1 ≤ h0_depth.toInt := by have q := hI.out.1; rcases eS with eS | eS <;> rw [eS] at q <;> (have := cJ_b gS2 (D := h0_depth.toInt - 1) q; (first | (apply Int.le_antisymm <;> omega) | omega))
        refine lv_aload_n hx hb d_CO_codeBranching_106 rfl (lv_at hl 0 rfl) ?_
        refine va_get (D := (dC, dI)) (ci := 2) (v := .ref bo) (C := R_CO) (T := F_CO) (N := 13) hx hb hts i_CO hown hK hP 0 rfl rfl 10 (by decide) (hts _ kF_CO_26) (fun _ h9 => h9) rfl d_CO_codeBranching_107 ?_
        refine lv_bipush (v := 11) hx hb d_CO_codeBranching_110 (by decide) ?_
        have hPc := hP.sb (wq := (wz_94 bo bob bo_length bob cbob gbob)) [3, 4] rfl
        have hDc := hD.sb (wq := (wz_94 bo bob bo_length bob cbob gbob)) [3, 4] (by decide) rfl
        have hKc := hK.sb (tyq := [(cbob, .byte)]) [1] rfl
        have hFc := va_free (wc := (wz_94 bo bob bo_length bob cbob gbob)) hD hS hA [3, 4] rfl
        refine va_callv (va_runV (As := [.int 11]) (rest := []) ⟨hx, hb, hml, hown, hts⟩ (c_BR_put l dC dI bo bob H.size cbob 8192 bo_length gbob (by (first | (apply Int.le_antisymm <;> omega) | omega)) (by (first | (apply Int.le_antisymm <;> omega) | omega)) (by (first | (apply Int.le_antisymm <;> omega) | omega)) 11) (cwV 1 hts (gV kM_CO_76 kV_BR_put kS_BR_put kI_BR kC_BR_put) rfl rfl rfl (by decide +kernel) ⟨Nat.le_of_ble_eq_true rfl, Nat.le_of_ble_eq_true rfl⟩) ⟨fun a U g mk z => by obtain ⟨z0, z1, zP, zK, zD⟩ := z; exact ⟨z0, z1, zP, va_K.moved (u := U) (U := U.calling g mk a) (Vm.Alike.refl U.vm) zK, zD⟩, va_recv hKc hPc (ci := 1) (q0 := 0) rfl rfl, fun U hU hW => ⟨rfl, by rw [hU], va_P.he hU.symm hPc, va_K.moved hW.alike hKc, hDc.weaken (fun _ _ _ _ => trivial)⟩⟩ rfl rfl hl.1 rfl (lv_room (Nat.le_of_ble_eq_true rfl)) d_CO_codeBranching_112 ⟨(Nat.zero_le _), (Nat.zero_le _)⟩) hS (fun q _ h => hFc q h) hFc (fun u t H1 locs ht hvm hw hB hz1 hk1 hS => ?_)
        obtain ⟨n21, f22⟩ := u
        try dsimp only at hw
        have tn21 := br_put_in (by (first | (apply Int.le_antisymm <;> omega) | omega)) (by (first | (apply Int.le_antisymm <;> omega) | omega)) (by (first | (apply Int.le_antisymm <;> omega) | omega)) hw
        have bn21 := br_put_bl (by (first | (apply Int.le_antisymm <;> omega) | omega)) (by (first | (apply Int.le_antisymm <;> omega) | omega)) (by (first | (apply Int.le_antisymm <;> omega) | omega)) hw
        obtain ⟨hP1, hK1, hD1⟩ := hB
        replace hP1 := va_P.he ht hP1
        obtain ⟨hP, hD⟩ := va_join (wr := [(h0, .inr (2, [.ref pr, .ref kn, .ref lt, .int h0_localCount, .ref pe, .int h0_pendingCount, .int h0_gives, .int h0_depth, .int h0_loopDepth, .ref to, .ref bo, .ref cs, .ref se])), (pr, .inr (6, [.ref gl, .ref fu, .ref pa, .ref pf, .ref sf, .ref pk, .ref pg, .ref pp, .ref pz, .ref pv, .int pr_reason, .int pr_place, .ref pr_scanner_r, .int pr_stepCount, .int pr_open, .int pr_twoSides, .ref pr_waiting_r, .ref pr_waitingPlaces_r, .int pr_waitingCount])), (pe, .inl (cpe, 680, .inl gpe)), (kn, .inr (5, [.ref tr, .ref kns, .ref knz, .ref knt, .ref knv, .int kn_length])), (pk, .inl (cpk, 4100, .inl gpk)), (pp, .inl (cpp, 4100, .inl gpp))]) (w1 := (wz_94 bo bob n21 bob cbob f22)) hP hD [3, 4] [0, 1, 2, 5, 6, 7] rfl rfl (by decide) (by decide) hk1 hFc hP1 hD1
        clear hPc hDc hKc hFc hz1 hk1 hP1 hK1 hD1
        rename Heap => H
        have hP : va_P (dC, dI) cls (wz_192 h0 pr kn lt h0_localCount pe h0_pendingCount h0_gives h0_depth h0_loopDepth to bo cs se pr gl fu pa pf sf pk pg pp pz pv pr_reason pr_place pr_scanner_r pr_stepCount pr_open pr_twoSides pr_waiting_r pr_waitingPlaces_r pr_waitingCount pe cpe gpe kn tr kns knz knt knv kn_length pk cpk gpk pp cpp gpp bo bob n21 bob cbob f22) H := hP
        have hD : va_D A (wz_192 h0 pr kn lt h0_localCount pe h0_pendingCount h0_gives h0_depth h0_loopDepth to bo cs se pr gl fu pa pf sf pk pg pp pz pv pr_reason pr_place pr_scanner_r pr_stepCount pr_open pr_twoSides pr_waiting_r pr_waitingPlaces_r pr_waitingCount pe cpe gpe kn tr kns knz knt knv kn_length pk cpk gpk pp cpp gpp bo bob n21 bob cbob f22) := hD
        refine lv_aload_n hx hb d_CO_codeBranching_115 rfl (lv_at hl 0 rfl) ?_
        refine lv_dup hx hb d_CO_codeBranching_116 rfl ?_
        refine va_get (D := (dC, dI)) (ci := 2) (v := .int h0_depth) (C := R_CO) (T := F_CO) (N := 13) hx hb hts i_CO hown hK hP 0 rfl rfl 7 (by decide) (hts _ kF_CO_115) (fun _ h9 => h9) rfl d_CO_codeBranching_117 ?_
        refine lv_iconst (v := 1) hx hb d_CO_codeBranching_120 (by decide) ?_
        refine lv_isub hx hb d_CO_codeBranching_121 ?_
        refine lv_topi (fun x23 ex23 => ?_)
        have tx23 : x23.toInt = h0_depth.toInt - 1 := by have z := i32_sub ex23 (by (first | (apply Int.le_antisymm <;> omega) | omega)) (by (first | (apply Int.le_antisymm <;> omega) | omega)); first | exact z | (first | (apply Int.le_antisymm <;> omega) | omega)
        refine va_put (D := (dC, dI)) (ci := 2) (v := .int x23) (ty := .int) (C := R_CO) (T := F_CO) (N := 13) hx hb hts i_CO t_CO t_CO_ok n_CO hown hK hP hD hS 0 rfl rfl 7 (by decide) (hts _ kF_CO_115) (fun _ h9 => h9) rfl (by decide +kernel) rfl rfl (Nat.le_of_ble_eq_true rfl) d_CO_codeBranching_122 (fun H locs hP hD hS => ?_)
        refine lv_goto (tgt := 209) hx hb d_CO_codeBranching_125 (by decide) ?_
        have hP9 := hP.sb (wq := (wz_187 h0 pr kn lt h0_localCount pe h0_pendingCount h0_gives x23 h0_loopDepth to bo cs se pr gl fu pa pf sf pk pg pp pz pv pr_reason pr_place pr_scanner_r pr_stepCount pr_open pr_twoSides pr_waiting_r pr_waitingPlaces_r pr_waitingCount pe cpe gpe bo bob n21 bob cbob f22 kn tr kns knz knt knv kn_length pk cpk gpk pp cpp gpp)) [0, 1, 2, 6, 7, 3, 4, 5] rfl
        have hD9 := hD.sb (wq := (wz_187 h0 pr kn lt h0_localCount pe h0_pendingCount h0_gives x23 h0_loopDepth to bo cs se pr gl fu pa pf sf pk pg pp pz pv pr_reason pr_place pr_scanner_r pr_stepCount pr_open pr_twoSides pr_waiting_r pr_waitingPlaces_r pr_waitingCount pe cpe gpe bo bob n21 bob cbob f22 kn tr kns knz knt knv kn_length pk cpk gpk pp cpp gpp)) [0, 1, 2, 6, 7, 3, 4, 5] (by decide) rfl
        exact tz_up (fun _ => rfl) (W.vret hx hb hr (fun t ht hW => ⟨⟨(f22, gpe, n21, x23, h0_loopDepth, h0_pendingCount, kn_length, pr_place, pr_reason), ⟨rfl, ⟨by (try dsimp only) <;> (first | (apply Int.le_antisymm <;> omega) | omega), b_h0_pendingCount, b_kn_length, ⟨by (try dsimp only); have hI := hI.out; have hbl : bl f22 n21.toNatClampNeg = bl gbob bo_length.toNatClampNeg ++ [11] := (by rw [bn21 (by (first | (apply Int.le_antisymm <;> omega) | omega))]; rfl); rw [hbl, ec]; rw [show x23.toInt = h0_depth.toInt - 1 from by (first | (apply Int.le_antisymm <;> omega) | omega)]; rcases eS with eS | eS <;> rw [eS] at hI; exact cI_fi hI (Or.inl rfl); exact cI_fi hI (Or.inr rfl), by (try dsimp only) <;> (first | (apply Int.le_antisymm <;> omega) | omega)⟩⟩⟩, va_P.he ht.symm hP9, va_K.moved hW.alike hK, hD9⟩, hS.F ht⟩) hS.2.2 d_CO_codeBranching_209)
      · skip
        by_cases g9_128 : x1.toInt = 16
        · have ho9 : tab_off 189 13 19 #[43, 86, 97, 119, 126, 168, 175] x1.toInt = 119 := by rw [g9_128]; rfl
          refine lv_tab (tgt := 128) hx hb d_CO_codeBranching_9 (by decide) ho9 (by decide) ?_
          clear ho9
          have h9 : (gpk p0.toNatClampNeg).toInt = 16 := by rw [← ex1]; (first | (apply Int.le_antisymm <;> omega) | omega)
          have s9 := sI_16 hs.out h9
          obtain ⟨ec, eS2⟩ := s9
          have q2 : gS2.length = gS.length + 1 := by rw [eS2, List.length_cons]
          refine lv_aload_n hx hb d_CO_codeBranching_128 rfl (lv_at hl 0 rfl) ?_
          have hPc := hP.sb (wq := (wz_156 h0 pr kn lt h0_localCount pe h0_pendingCount h0_gives h0_depth h0_loopDepth to bo cs se pe cpe gpe bo bob bo_length bob cbob gbob)) [0, 2, 3, 4] rfl
          have hDc := hD.sb (wq := (wz_156 h0 pr kn lt h0_localCount pe h0_pendingCount h0_gives h0_depth h0_loopDepth to bo cs se pe cpe gpe bo bob bo_length bob cbob gbob)) [0, 2, 3, 4] (by decide) rfl
          have hKc := hK.sb (tyq := [(cpe, .int), (cbob, .byte)]) [0, 1] rfl
          have hFc := va_free (wc := (wz_156 h0 pr kn lt h0_localCount pe h0_pendingCount h0_gives h0_depth h0_loopDepth to bo cs se pe cpe gpe bo bob bo_length bob cbob gbob)) hD hS hA [0, 2, 3, 4] rfl
          refine va_callv (va_runV (As := []) (rest := []) ⟨hx, hb, hml, hown, hts⟩ (c_CO_beginLoop l dC dI H.size h0 pr kn lt pe to bo cs se bob cpe cbob h0_localCount h0_pendingCount h0_gives h0_depth h0_loopDepth gpe bo_length gbob (b_h0_pendingCount) (b_bo_length) (by (first | (apply Int.le_antisymm <;> omega) | omega)) (by (first | (apply Int.le_antisymm <;> omega) | omega)) (by (first | (apply Int.le_antisymm <;> omega) | omega))) (cwV 0 hts (gV kM_CO_282 kV_CO_beginLoop kS_CO_beginLoop kI_CO kC_CO_beginLoop) rfl rfl rfl (by decide +kernel) ⟨Nat.le_of_ble_eq_true rfl, Nat.le_of_ble_eq_true rfl⟩) ⟨fun a U g mk z => by obtain ⟨z0, z1, zP, zK, zD⟩ := z; exact ⟨z0, z1, zP, va_K.moved (u := U) (U := U.calling g mk a) (Vm.Alike.refl U.vm) zK, zD⟩, va_recv hKc hPc (ci := 2) (q0 := 0) rfl rfl, fun U hU hW => ⟨rfl, by rw [hU], va_P.he hU.symm hPc, va_K.moved hW.alike hKc, hDc.weaken (fun _ _ _ _ => trivial)⟩⟩ rfl rfl hl.1 rfl (lv_room (Nat.le_of_ble_eq_true rfl)) d_CO_codeBranching_129 ⟨(Nat.zero_le _), (Nat.zero_le _)⟩) hS (fun q _ h => hFc q h) hFc (fun u t H1 locs ht hvm hw hB hz1 hk1 hS => ?_)
          obtain ⟨n25, n26, n27, n28, n29, n30⟩ := u
          try dsimp only at hw
          obtain ⟨bn27, bn30, xr24⟩ := hw
          try clear hw
          obtain ⟨hP1, hK1, hD1⟩ := hB
          replace hP1 := va_P.he ht hP1
          obtain ⟨hP, hD⟩ := va_join (wr := [(pr, .inr (6, [.ref gl, .ref fu, .ref pa, .ref pf, .ref sf, .ref pk, .ref pg, .ref pp, .ref pz, .ref pv, .int pr_reason, .int pr_place, .ref pr_scanner_r, .int pr_stepCount, .int pr_open, .int pr_twoSides, .ref pr_waiting_r, .ref pr_waitingPlaces_r, .int pr_waitingCount])), (kn, .inr (5, [.ref tr, .ref kns, .ref knz, .ref knt, .ref knv, .int kn_length])), (pk, .inl (cpk, 4100, .inl gpk)), (pp, .inl (cpp, 4100, .inl gpp))]) (w1 := (wz_156 h0 pr kn lt h0_localCount pe n30 h0_gives n28 n29 to bo cs se pe cpe n26 bo bob n27 bob cbob n25)) hP hD [0, 2, 3, 4] [1, 5, 6, 7] rfl rfl (by decide) (by decide) hk1 hFc hP1 hD1
          clear hPc hDc hKc hFc hz1 hk1 hP1 hK1 hD1
          rename Heap => H
          have hP : va_P (dC, dI) cls (wz_193 pr gl fu pa pf sf pk pg pp pz pv pr_reason pr_place pr_scanner_r pr_stepCount pr_open pr_twoSides pr_waiting_r pr_waitingPlaces_r pr_waitingCount kn tr kns knz knt knv kn_length pk cpk gpk pp cpp gpp h0 pr kn lt h0_localCount pe n30 h0_gives n28 n29 to bo cs se pe cpe n26 bo bob n27 bob cbob n25) H := hP
          have hD : va_D A (wz_193 pr gl fu pa pf sf pk pg pp pz pv pr_reason pr_place pr_scanner_r pr_stepCount pr_open pr_twoSides pr_waiting_r pr_waitingPlaces_r pr_waitingCount kn tr kns knz knt knv kn_length pk cpk gpk pp cpp gpp h0 pr kn lt h0_localCount pe n30 h0_gives n28 n29 to bo cs se pe cpe n26 bo bob n27 bob cbob n25) := hD
          refine lv_goto (tgt := 209) hx hb d_CO_codeBranching_132 (by decide) ?_
          have hP9 := hP.sb (wq := (wz_187 h0 pr kn lt h0_localCount pe n30 h0_gives n28 n29 to bo cs se pr gl fu pa pf sf pk pg pp pz pv pr_reason pr_place pr_scanner_r pr_stepCount pr_open pr_twoSides pr_waiting_r pr_waitingPlaces_r pr_waitingCount pe cpe n26 bo bob n27 bob cbob n25 kn tr kns knz knt knv kn_length pk cpk gpk pp cpp gpp)) [4, 0, 5, 6, 7, 1, 2, 3] rfl
          have hD9 := hD.sb (wq := (wz_187 h0 pr kn lt h0_localCount pe n30 h0_gives n28 n29 to bo cs se pr gl fu pa pf sf pk pg pp pz pv pr_reason pr_place pr_scanner_r pr_stepCount pr_open pr_twoSides pr_waiting_r pr_waitingPlaces_r pr_waitingCount pe cpe n26 bo bob n27 bob cbob n25 kn tr kns knz knt knv kn_length pk cpk gpk pp cpp gpp)) [4, 0, 5, 6, 7, 1, 2, 3] (by decide) rfl
          exact tz_up (fun _ => rfl) (W.vret hx hb hr (fun t ht hW => ⟨⟨(n25, n26, n27, n28, n29, n30, kn_length, pr_place, pr_reason), ⟨rfl, ⟨bn27, bn30, b_kn_length, ⟨by (try dsimp only); have hI := hI.out; rw [xr24.2.2.2, eS2, ec, show n28.toInt = h0_depth.toInt + 2 from xr24.2.1.1, show n29.toInt = h0_depth.toInt + 2 from xr24.2.1.2, xr24.1.2, show n30.toNatClampNeg = h0_pendingCount.toNatClampNeg + 1 from clampN (by have := xr24.1.1; (first | (apply Int.le_antisymm <;> omega) | omega)), pl_put]; exact cI_loop hI (by rw [← eS2]; exact hl2.2), by (try dsimp only) <;> (first | (apply Int.le_antisymm <;> omega) | omega)⟩⟩⟩, va_P.he ht.symm hP9, va_K.moved hW.alike hK, hD9⟩, hS.F ht⟩) hS.2.2 d_CO_codeBranching_209)
        · skip
          by_cases g9_135 : x1.toInt = 17
          · have ho9 : tab_off 189 13 19 #[43, 86, 97, 119, 126, 168, 175] x1.toInt = 126 := by rw [g9_135]; rfl
            refine lv_tab (tgt := 135) hx hb d_CO_codeBranching_9 (by decide) ho9 (by decide) ?_
            clear ho9
            have h9 : (gpk p0.toNatClampNeg).toInt = 17 := by rw [← ex1]; (first | (apply Int.le_antisymm <;> omega) | omega)
            have s9 := sI_17 hs.out h9
            obtain ⟨ec, T9, eS, eS2⟩ := s9
            have q1 := hI.out.1
            rw [eS] at q1
            have q1 := cJ_pos q1 (by decide)
            refine lv_aload_n hx hb d_CO_codeBranching_135 rfl (lv_at hl 0 rfl) ?_
            refine lv_aload_n hx hb d_CO_codeBranching_136 rfl (lv_at hl 0 rfl) ?_
            refine va_get (D := (dC, dI)) (ci := 2) (v := .ref pr) (C := R_CO) (T := F_CO) (N := 13) hx hb hts i_CO hown hK hP 0 rfl rfl 0 (by decide) (hts _ kF_CO_36) (fun _ h9 => h9) rfl d_CO_codeBranching_137 ?_
            refine va_get (D := (dC, dI)) (ci := 6) (v := .ref pp) (C := R_PR) (T := F_PR) (N := 19) hx hb hts i_PR hown hK hP 1 rfl rfl 7 (by decide) (hts _ kF_CO_193) (fun _ h9 => h9) rfl d_CO_codeBranching_140 ?_
            refine lv_iload_n hx hb d_CO_codeBranching_143 rfl (lv_at hl 1 rfl) ?_
            have g144 : vp_in p0 4100 := vp_in_iff.mpr ⟨by (first | (apply Int.le_antisymm <;> omega) | omega), by (first | (apply Int.le_antisymm <;> omega) | omega)⟩
            refine va_iald hx hb hK hP 7 3 rfl rfl g144 d_CO_codeBranching_144 ?_
            refine lv_topi (fun x31 ex31 => ?_)
            have hPc := hP.sb (wq := (wz_154 h0 pr kn lt h0_localCount pe h0_pendingCount h0_gives h0_depth h0_loopDepth to bo cs se pr gl fu pa pf sf pk pg pp pz pv pr_reason pr_place pr_scanner_r pr_stepCount pr_open pr_twoSides pr_waiting_r pr_waitingPlaces_r pr_waitingCount pe cpe gpe)) [0, 1, 2] rfl
            have hDc := hD.sb (wq := (wz_154 h0 pr kn lt h0_localCount pe h0_pendingCount h0_gives h0_depth h0_loopDepth to bo cs se pr gl fu pa pf sf pk pg pp pz pv pr_reason pr_place pr_scanner_r pr_stepCount pr_open pr_twoSides pr_waiting_r pr_waitingPlaces_r pr_waitingCount pe cpe gpe)) [0, 1, 2] (by decide) rfl
            have hKc := hK.sb (tyq := [(cpe, .int)]) [0] rfl
            have hFc := va_free (wc := (wz_154 h0 pr kn lt h0_localCount pe h0_pendingCount h0_gives h0_depth h0_loopDepth to bo cs se pr gl fu pa pf sf pk pg pp pz pv pr_reason pr_place pr_scanner_r pr_stepCount pr_open pr_twoSides pr_waiting_r pr_waitingPlaces_r pr_waitingCount pe cpe gpe)) hD hS hA [0, 1, 2] rfl
            refine tq_callv (tz_runV (As := [.int x31]) (rest := []) ⟨hx, hb, hml, hown, hts⟩ (c_CO_takeCondition l hlt dC dI H.size sa h0 pr kn lt pe to bo cs se gl fu pa pf sf pk pg pp pz pv pr_scanner_r pr_waiting_r pr_waitingPlaces_r cpe h0_localCount h0_pendingCount h0_gives h0_depth h0_loopDepth pr_reason pr_place pr_stepCount pr_open pr_twoSides pr_waitingCount gpe (b_h0_pendingCount) x31 (by (first | (apply Int.le_antisymm <;> omega) | omega))) (cwV 1 hts (gV kM_CO_279 kV_CO_takeCondition kS_CO_takeCondition kI_CO kC_CO_takeCondition) rfl rfl rfl (by decide +kernel) ⟨Nat.le_of_ble_eq_true rfl, Nat.le_of_ble_eq_true rfl⟩) ⟨fun a U g mk z => by obtain ⟨z0, z1, zP, zK, zD, zS⟩ := z; exact ⟨z0, z1, zP, va_K.moved (u := U) (U := U.calling g mk a) (Vm.Alike.refl U.vm) zK, zD, sw.same (u := U) (U := U.calling g mk a) rfl zS⟩, va_recv hKc hPc (ci := 2) (q0 := 0) rfl rfl, fun U hU hW => ⟨rfl, by rw [hU], va_P.he hU.symm hPc, va_K.moved hW.alike hKc, hDc.weaken (fun _ _ _ _ => trivial), hSW.call hS hFc hW hU⟩⟩ rfl rfl hl.1 rfl (lv_room (Nat.le_of_ble_eq_true rfl)) d_CO_codeBranching_145 ⟨Nat.le_of_ble_eq_true rfl, Nat.le_of_ble_eq_true rfl⟩) hS (fun q _ h => hFc q h) hFc (fun u t H1 locs ht hvm hw hB hz1 hk1 hS => ?_) (fun xx u t H1 locs ht hvm hw hXX hB hz1 hk1 hS => ?_)
            rotate_left
            · skip
              obtain ⟨n33, n34, n35⟩ := u
              try dsimp only at hw
              have bn33 := hw
              obtain ⟨hP1, hK1, hD1⟩ := hB
              replace hP1 := va_P.he ht hP1
              obtain ⟨hP, hD⟩ := va_join (wr := (wz_188 bo bob bo_length bob cbob gbob kn tr kns knz knt knv kn_length pk cpk gpk pp cpp gpp)) (w1 := (wz_154 h0 pr kn lt h0_localCount pe n33 h0_gives h0_depth h0_loopDepth to bo cs se pr gl fu pa pf sf pk pg pp pz pv n35 n34 pr_scanner_r pr_stepCount pr_open pr_twoSides pr_waiting_r pr_waitingPlaces_r pr_waitingCount pe cpe gpe)) hP hD [0, 1, 2] [3, 4, 5, 6, 7] rfl rfl (by decide) (by decide) hk1 hFc hP1 hD1
              have hP : va_P (dC, dI) cls (wz_189 bo bob bo_length bob cbob gbob kn tr kns knz knt knv kn_length pk cpk gpk pp cpp gpp h0 pr kn lt h0_localCount pe n33 h0_gives h0_depth h0_loopDepth to bo cs se pr gl fu pa pf sf pk pg pp pz pv n35 n34 pr_scanner_r pr_stepCount pr_open pr_twoSides pr_waiting_r pr_waitingPlaces_r pr_waitingCount pe cpe gpe) H1 := hP
              have hD : va_D A (wz_189 bo bob bo_length bob cbob gbob kn tr kns knz knt knv kn_length pk cpk gpk pp cpp gpp h0 pr kn lt h0_localCount pe n33 h0_gives h0_depth h0_loopDepth to bo cs se pr gl fu pa pf sf pk pg pp pz pv n35 n34 pr_scanner_r pr_stepCount pr_open pr_twoSides pr_waiting_r pr_waitingPlaces_r pr_waitingCount pe cpe gpe) := hD
              have hP9 := hP.sb (wq := (wz_187 h0 pr kn lt h0_localCount pe n33 h0_gives h0_depth h0_loopDepth to bo cs se pr gl fu pa pf sf pk pg pp pz pv n35 n34 pr_scanner_r pr_stepCount pr_open pr_twoSides pr_waiting_r pr_waitingPlaces_r pr_waitingCount pe cpe gpe bo bob bo_length bob cbob gbob kn tr kns knz knt knv kn_length pk cpk gpk pp cpp gpp)) [5, 6, 7, 0, 1, 2, 3, 4] rfl
              have hD9 := hD.sb (wq := (wz_187 h0 pr kn lt h0_localCount pe n33 h0_gives h0_depth h0_loopDepth to bo cs se pr gl fu pa pf sf pk pg pp pz pv n35 n34 pr_scanner_r pr_stepCount pr_open pr_twoSides pr_waiting_r pr_waitingPlaces_r pr_waitingCount pe cpe gpe bo bob bo_length bob cbob gbob kn tr kns knz knt knv kn_length pk cpk gpk pp cpp gpp)) [5, 6, 7, 0, 1, 2, 3, 4] (by decide) rfl
              exact tz_leave rfl hno hlocks (fun t ht hW => ⟨⟨(gbob, gpe, bo_length, h0_depth, h0_loopDepth, n33, kn_length, n34, n35), ⟨⟨b_bo_length, bn33, b_kn_length⟩, by rw [ht]; exact hXX.moved hW.alike⟩, va_P.he ht.symm hP9, va_K.moved hW.alike hK, hD9⟩, hS.F ht⟩) hS.2.2
            obtain ⟨n36, n37, n38⟩ := u
            try dsimp only at hw
            obtain ⟨bn36, xr32⟩ := hw
            try clear hw
            obtain ⟨hP1, hK1, hD1⟩ := hB
            replace hP1 := va_P.he ht hP1
            obtain ⟨hP, hD⟩ := va_join (wr := (wz_188 bo bob bo_length bob cbob gbob kn tr kns knz knt knv kn_length pk cpk gpk pp cpp gpp)) (w1 := (wz_154 h0 pr kn lt h0_localCount pe n36 h0_gives h0_depth h0_loopDepth to bo cs se pr gl fu pa pf sf pk pg pp pz pv n38 n37 pr_scanner_r pr_stepCount pr_open pr_twoSides pr_waiting_r pr_waitingPlaces_r pr_waitingCount pe cpe gpe)) hP hD [0, 1, 2] [3, 4, 5, 6, 7] rfl rfl (by decide) (by decide) hk1 hFc hP1 hD1
            clear hPc hDc hKc hFc hz1 hk1 hP1 hK1 hD1
            rename Heap => H
            have hP : va_P (dC, dI) cls (wz_189 bo bob bo_length bob cbob gbob kn tr kns knz knt knv kn_length pk cpk gpk pp cpp gpp h0 pr kn lt h0_localCount pe n36 h0_gives h0_depth h0_loopDepth to bo cs se pr gl fu pa pf sf pk pg pp pz pv n38 n37 pr_scanner_r pr_stepCount pr_open pr_twoSides pr_waiting_r pr_waitingPlaces_r pr_waitingCount pe cpe gpe) H := hP
            have hD : va_D A (wz_189 bo bob bo_length bob cbob gbob kn tr kns knz knt knv kn_length pk cpk gpk pp cpp gpp h0 pr kn lt h0_localCount pe n36 h0_gives h0_depth h0_loopDepth to bo cs se pr gl fu pa pf sf pk pg pp pz pv n38 n37 pr_scanner_r pr_stepCount pr_open pr_twoSides pr_waiting_r pr_waitingPlaces_r pr_waitingCount pe cpe gpe) := hD
            refine lv_aload_n hx hb d_CO_codeBranching_148 rfl (lv_at hl 0 rfl) ?_
            refine va_get (D := (dC, dI)) (ci := 2) (v := .ref bo) (C := R_CO) (T := F_CO) (N := 13) hx hb hts i_CO hown hK hP 5 rfl rfl 10 (by decide) (hts _ kF_CO_26) (fun _ h9 => h9) rfl d_CO_codeBranching_149 ?_
            refine lv_bipush (v := 69) hx hb d_CO_codeBranching_152 (by decide) ?_
            have hPc := hP.sb (wq := (wz_94 bo bob bo_length bob cbob gbob)) [0, 1] rfl
            have hDc := hD.sb (wq := (wz_94 bo bob bo_length bob cbob gbob)) [0, 1] (by decide) rfl
            have hKc := hK.sb (tyq := [(cbob, .byte)]) [1] rfl
            have hFc := va_free (wc := (wz_94 bo bob bo_length bob cbob gbob)) hD hS hA [0, 1] rfl
            refine va_callv (va_runV (As := [.int 69]) (rest := []) ⟨hx, hb, hml, hown, hts⟩ (c_BR_put l dC dI bo bob H.size cbob 8192 bo_length gbob (by (first | (apply Int.le_antisymm <;> omega) | omega)) (by (first | (apply Int.le_antisymm <;> omega) | omega)) (by (first | (apply Int.le_antisymm <;> omega) | omega)) 69) (cwV 1 hts (gV kM_CO_76 kV_BR_put kS_BR_put kI_BR kC_BR_put) rfl rfl rfl (by decide +kernel) ⟨Nat.le_of_ble_eq_true rfl, Nat.le_of_ble_eq_true rfl⟩) ⟨fun a U g mk z => by obtain ⟨z0, z1, zP, zK, zD⟩ := z; exact ⟨z0, z1, zP, va_K.moved (u := U) (U := U.calling g mk a) (Vm.Alike.refl U.vm) zK, zD⟩, va_recv hKc hPc (ci := 1) (q0 := 0) rfl rfl, fun U hU hW => ⟨rfl, by rw [hU], va_P.he hU.symm hPc, va_K.moved hW.alike hKc, hDc.weaken (fun _ _ _ _ => trivial)⟩⟩ rfl rfl hl.1 rfl (lv_room (Nat.le_of_ble_eq_true rfl)) d_CO_codeBranching_154 ⟨(Nat.zero_le _), (Nat.zero_le _)⟩) hS (fun q _ h => hFc q h) hFc (fun u t H1 locs ht hvm hw hB hz1 hk1 hS => ?_)
            obtain ⟨n40, f41⟩ := u
            try dsimp only at hw
            have tn40 := br_put_in (by (first | (apply Int.le_antisymm <;> omega) | omega)) (by (first | (apply Int.le_antisymm <;> omega) | omega)) (by (first | (apply Int.le_antisymm <;> omega) | omega)) hw
            have bn40 := br_put_bl (by (first | (apply Int.le_antisymm <;> omega) | omega)) (by (first | (apply Int.le_antisymm <;> omega) | omega)) (by (first | (apply Int.le_antisymm <;> omega) | omega)) hw
            obtain ⟨hP1, hK1, hD1⟩ := hB
            replace hP1 := va_P.he ht hP1
            obtain ⟨hP, hD⟩ := va_join (wr := (wz_190 kn tr kns knz knt knv kn_length pk cpk gpk pp cpp gpp h0 pr kn lt h0_localCount pe n36 h0_gives h0_depth h0_loopDepth to bo cs se pr gl fu pa pf sf pk pg pp pz pv n38 n37 pr_scanner_r pr_stepCount pr_open pr_twoSides pr_waiting_r pr_waitingPlaces_r pr_waitingCount pe cpe gpe)) (w1 := (wz_94 bo bob n40 bob cbob f41)) hP hD [0, 1] [2, 3, 4, 5, 6, 7] rfl rfl (by decide) (by decide) hk1 hFc hP1 hD1
            clear hPc hDc hKc hFc hz1 hk1 hP1 hK1 hD1
            rename Heap => H
            have hP : va_P (dC, dI) cls (wz_191 kn tr kns knz knt knv kn_length pk cpk gpk pp cpp gpp h0 pr kn lt h0_localCount pe n36 h0_gives h0_depth h0_loopDepth to bo cs se pr gl fu pa pf sf pk pg pp pz pv n38 n37 pr_scanner_r pr_stepCount pr_open pr_twoSides pr_waiting_r pr_waitingPlaces_r pr_waitingCount pe cpe gpe bo bob n40 bob cbob f41) H := hP
            have hD : va_D A (wz_191 kn tr kns knz knt knv kn_length pk cpk gpk pp cpp gpp h0 pr kn lt h0_localCount pe n36 h0_gives h0_depth h0_loopDepth to bo cs se pr gl fu pa pf sf pk pg pp pz pv n38 n37 pr_scanner_r pr_stepCount pr_open pr_twoSides pr_waiting_r pr_waitingPlaces_r pr_waitingCount pe cpe gpe bo bob n40 bob cbob f41) := hD
            refine lv_aload_n hx hb d_CO_codeBranching_157 rfl (lv_at hl 0 rfl) ?_
            refine va_get (D := (dC, dI)) (ci := 2) (v := .ref bo) (C := R_CO) (T := F_CO) (N := 13) hx hb hts i_CO hown hK hP 3 rfl rfl 10 (by decide) (hts _ kF_CO_26) (fun _ h9 => h9) rfl d_CO_codeBranching_158 ?_
            refine lv_bipush (v := 13) hx hb d_CO_codeBranching_161 (by decide) ?_
            have hPc := hP.sb (wq := (wz_94 bo bob n40 bob cbob f41)) [6, 7] rfl
            have hDc := hD.sb (wq := (wz_94 bo bob n40 bob cbob f41)) [6, 7] (by decide) rfl
            have hKc := hK.sb (tyq := [(cbob, .byte)]) [1] rfl
            have hFc := va_free (wc := (wz_94 bo bob n40 bob cbob f41)) hD hS hA [6, 7] rfl
            refine va_callv (va_runV (As := [.int 13]) (rest := []) ⟨hx, hb, hml, hown, hts⟩ (c_BR_put l dC dI bo bob H.size cbob 8192 n40 f41 (by (first | (apply Int.le_antisymm <;> omega) | omega)) (by (first | (apply Int.le_antisymm <;> omega) | omega)) (by (first | (apply Int.le_antisymm <;> omega) | omega)) 13) (cwV 1 hts (gV kM_CO_76 kV_BR_put kS_BR_put kI_BR kC_BR_put) rfl rfl rfl (by decide +kernel) ⟨Nat.le_of_ble_eq_true rfl, Nat.le_of_ble_eq_true rfl⟩) ⟨fun a U g mk z => by obtain ⟨z0, z1, zP, zK, zD⟩ := z; exact ⟨z0, z1, zP, va_K.moved (u := U) (U := U.calling g mk a) (Vm.Alike.refl U.vm) zK, zD⟩, va_recv hKc hPc (ci := 1) (q0 := 0) rfl rfl, fun U hU hW => ⟨rfl, by rw [hU], va_P.he hU.symm hPc, va_K.moved hW.alike hKc, hDc.weaken (fun _ _ _ _ => trivial)⟩⟩ rfl rfl hl.1 rfl (lv_room (Nat.le_of_ble_eq_true rfl)) d_CO_codeBranching_163 ⟨(Nat.zero_le _), (Nat.zero_le _)⟩) hS (fun q _ h => hFc q h) hFc (fun u t H1 locs ht hvm hw hB hz1 hk1 hS => ?_)
            obtain ⟨n43, f44⟩ := u
            try dsimp only at hw
            have tn43 := br_put_in (by (first | (apply Int.le_antisymm <;> omega) | omega)) (by (first | (apply Int.le_antisymm <;> omega) | omega)) (by (first | (apply Int.le_antisymm <;> omega) | omega)) hw
            have bn43 := br_put_bl (by (first | (apply Int.le_antisymm <;> omega) | omega)) (by (first | (apply Int.le_antisymm <;> omega) | omega)) (by (first | (apply Int.le_antisymm <;> omega) | omega)) hw
            obtain ⟨hP1, hK1, hD1⟩ := hB
            replace hP1 := va_P.he ht hP1
            obtain ⟨hP, hD⟩ := va_join (wr := (wz_190 kn tr kns knz knt knv kn_length pk cpk gpk pp cpp gpp h0 pr kn lt h0_localCount pe n36 h0_gives h0_depth h0_loopDepth to bo cs se pr gl fu pa pf sf pk pg pp pz pv n38 n37 pr_scanner_r pr_stepCount pr_open pr_twoSides pr_waiting_r pr_waitingPlaces_r pr_waitingCount pe cpe gpe)) (w1 := (wz_94 bo bob n43 bob cbob f44)) hP hD [6, 7] [0, 1, 2, 3, 4, 5] rfl rfl (by decide) (by decide) hk1 hFc hP1 hD1
            clear hPc hDc hKc hFc hz1 hk1 hP1 hK1 hD1
            rename Heap => H
            have hP : va_P (dC, dI) cls (wz_191 kn tr kns knz knt knv kn_length pk cpk gpk pp cpp gpp h0 pr kn lt h0_localCount pe n36 h0_gives h0_depth h0_loopDepth to bo cs se pr gl fu pa pf sf pk pg pp pz pv n38 n37 pr_scanner_r pr_stepCount pr_open pr_twoSides pr_waiting_r pr_waitingPlaces_r pr_waitingCount pe cpe gpe bo bob n43 bob cbob f44) H := hP
            have hD : va_D A (wz_191 kn tr kns knz knt knv kn_length pk cpk gpk pp cpp gpp h0 pr kn lt h0_localCount pe n36 h0_gives h0_depth h0_loopDepth to bo cs se pr gl fu pa pf sf pk pg pp pz pv n38 n37 pr_scanner_r pr_stepCount pr_open pr_twoSides pr_waiting_r pr_waitingPlaces_r pr_waitingCount pe cpe gpe bo bob n43 bob cbob f44) := hD
            refine lv_aload_n hx hb d_CO_codeBranching_166 rfl (lv_at hl 0 rfl) ?_
            refine va_get (D := (dC, dI)) (ci := 2) (v := .ref bo) (C := R_CO) (T := F_CO) (N := 13) hx hb hts i_CO hown hK hP 3 rfl rfl 10 (by decide) (hts _ kF_CO_26) (fun _ h9 => h9) rfl d_CO_codeBranching_167 ?_
            refine lv_iconst (v := 1) hx hb d_CO_codeBranching_170 (by decide) ?_
            have hPc := hP.sb (wq := (wz_94 bo bob n43 bob cbob f44)) [6, 7] rfl
            have hDc := hD.sb (wq := (wz_94 bo bob n43 bob cbob f44)) [6, 7] (by decide) rfl
            have hKc := hK.sb (tyq := [(cbob, .byte)]) [1] rfl
            have hFc := va_free (wc := (wz_94 bo bob n43 bob cbob f44)) hD hS hA [6, 7] rfl
            refine va_callv (va_runV (As := [.int 1]) (rest := []) ⟨hx, hb, hml, hown, hts⟩ (c_BR_put l dC dI bo bob H.size cbob 8192 n43 f44 (by (first | (apply Int.le_antisymm <;> omega) | omega)) (by (first | (apply Int.le_antisymm <;> omega) | omega)) (by (first | (apply Int.le_antisymm <;> omega) | omega)) 1) (cwV 1 hts (gV kM_CO_76 kV_BR_put kS_BR_put kI_BR kC_BR_put) rfl rfl rfl (by decide +kernel) ⟨Nat.le_of_ble_eq_true rfl, Nat.le_of_ble_eq_true rfl⟩) ⟨fun a U g mk z => by obtain ⟨z0, z1, zP, zK, zD⟩ := z; exact ⟨z0, z1, zP, va_K.moved (u := U) (U := U.calling g mk a) (Vm.Alike.refl U.vm) zK, zD⟩, va_recv hKc hPc (ci := 1) (q0 := 0) rfl rfl, fun U hU hW => ⟨rfl, by rw [hU], va_P.he hU.symm hPc, va_K.moved hW.alike hKc, hDc.weaken (fun _ _ _ _ => trivial)⟩⟩ rfl rfl hl.1 rfl (lv_room (Nat.le_of_ble_eq_true rfl)) d_CO_codeBranching_171 ⟨(Nat.zero_le _), (Nat.zero_le _)⟩) hS (fun q _ h => hFc q h) hFc (fun u t H1 locs ht hvm hw hB hz1 hk1 hS => ?_)
            obtain ⟨n46, f47⟩ := u
            try dsimp only at hw
            have tn46 := br_put_in (by (first | (apply Int.le_antisymm <;> omega) | omega)) (by (first | (apply Int.le_antisymm <;> omega) | omega)) (by (first | (apply Int.le_antisymm <;> omega) | omega)) hw
            have bn46 := br_put_bl (by (first | (apply Int.le_antisymm <;> omega) | omega)) (by (first | (apply Int.le_antisymm <;> omega) | omega)) (by (first | (apply Int.le_antisymm <;> omega) | omega)) hw
            obtain ⟨hP1, hK1, hD1⟩ := hB
            replace hP1 := va_P.he ht hP1
            obtain ⟨hP, hD⟩ := va_join (wr := (wz_190 kn tr kns knz knt knv kn_length pk cpk gpk pp cpp gpp h0 pr kn lt h0_localCount pe n36 h0_gives h0_depth h0_loopDepth to bo cs se pr gl fu pa pf sf pk pg pp pz pv n38 n37 pr_scanner_r pr_stepCount pr_open pr_twoSides pr_waiting_r pr_waitingPlaces_r pr_waitingCount pe cpe gpe)) (w1 := (wz_94 bo bob n46 bob cbob f47)) hP hD [6, 7] [0, 1, 2, 3, 4, 5] rfl rfl (by decide) (by decide) hk1 hFc hP1 hD1
            clear hPc hDc hKc hFc hz1 hk1 hP1 hK1 hD1
            rename Heap => H
            have hP : va_P (dC, dI) cls (wz_191 kn tr kns knz knt knv kn_length pk cpk gpk pp cpp gpp h0 pr kn lt h0_localCount pe n36 h0_gives h0_depth h0_loopDepth to bo cs se pr gl fu pa pf sf pk pg pp pz pv n38 n37 pr_scanner_r pr_stepCount pr_open pr_twoSides pr_waiting_r pr_waitingPlaces_r pr_waitingCount pe cpe gpe bo bob n46 bob cbob f47) H := hP
            have hD : va_D A (wz_191 kn tr kns knz knt knv kn_length pk cpk gpk pp cpp gpp h0 pr kn lt h0_localCount pe n36 h0_gives h0_depth h0_loopDepth to bo cs se pr gl fu pa pf sf pk pg pp pz pv n38 n37 pr_scanner_r pr_stepCount pr_open pr_twoSides pr_waiting_r pr_waitingPlaces_r pr_waitingCount pe cpe gpe bo bob n46 bob cbob f47) := hD
            refine lv_goto (tgt := 209) hx hb d_CO_codeBranching_174 (by decide) ?_
            have hP9 := hP.sb (wq := (wz_187 h0 pr kn lt h0_localCount pe n36 h0_gives h0_depth h0_loopDepth to bo cs se pr gl fu pa pf sf pk pg pp pz pv n38 n37 pr_scanner_r pr_stepCount pr_open pr_twoSides pr_waiting_r pr_waitingPlaces_r pr_waitingCount pe cpe gpe bo bob n46 bob cbob f47 kn tr kns knz knt knv kn_length pk cpk gpk pp cpp gpp)) [3, 4, 5, 6, 7, 0, 1, 2] rfl
            have hD9 := hD.sb (wq := (wz_187 h0 pr kn lt h0_localCount pe n36 h0_gives h0_depth h0_loopDepth to bo cs se pr gl fu pa pf sf pk pg pp pz pv n38 n37 pr_scanner_r pr_stepCount pr_open pr_twoSides pr_waiting_r pr_waitingPlaces_r pr_waitingCount pe cpe gpe bo bob n46 bob cbob f47 kn tr kns knz knt knv kn_length pk cpk gpk pp cpp gpp)) [3, 4, 5, 6, 7, 0, 1, 2] (by decide) rfl
            exact tz_up (fun _ => rfl) (W.vret hx hb hr (fun t ht hW => ⟨⟨(f47, gpe, n46, h0_depth, h0_loopDepth, n36, kn_length, n37, n38), ⟨rfl, ⟨by (try dsimp only) <;> (first | (apply Int.le_antisymm <;> omega) | omega), bn36, b_kn_length, ⟨by (try dsimp only); have hI := hI.out; have hbl : bl f47 n46.toNatClampNeg = bl gbob bo_length.toNatClampNeg ++ [69, 13, 1] := (by rw [bn46 (by (first | (apply Int.le_antisymm <;> omega) | omega)), bn43 (by (first | (apply Int.le_antisymm <;> omega) | omega)), bn40 (by (first | (apply Int.le_antisymm <;> omega) | omega)), List.append_assoc, List.append_assoc]; rfl); rw [hbl, eS2, ec]; rw [eS, pl_s (n := h0_pendingCount.toNatClampNeg) (m := n36.toNatClampNeg) (by have := i32_clamp (x := n36) (by (first | (apply Int.le_antisymm <;> omega) | omega)); (first | (apply Int.le_antisymm <;> omega) | omega))] at hI; exact cI_test hI (by rw [xr32.2]; decide), by (try dsimp only) <;> (first | (apply Int.le_antisymm <;> omega) | omega)⟩⟩⟩, va_P.he ht.symm hP9, va_K.moved hW.alike hK, hD9⟩, hS.F ht⟩) hS.2.2 d_CO_codeBranching_209)
          · skip
            by_cases g9_177 : x1.toInt = 18
            · have ho9 : tab_off 189 13 19 #[43, 86, 97, 119, 126, 168, 175] x1.toInt = 168 := by rw [g9_177]; rfl
              refine lv_tab (tgt := 177) hx hb d_CO_codeBranching_9 (by decide) ho9 (by decide) ?_
              clear ho9
              have h9 : (gpk p0.toNatClampNeg).toInt = 18 := by rw [← ex1]; (first | (apply Int.le_antisymm <;> omega) | omega)
              have s9 := sI_18 hs.out h9
              obtain ⟨ec, eS⟩ := s9
              have q1 := hI.out.1
              rw [eS] at q1
              have q1 := cJ_pos q1 (by decide)
              have d18 : 2 ≤ h0_depth.toInt := by have q := hI.out.1; rw [eS] at q; obtain ⟨t8, Q8, -, -, q⟩ := q; have := cJ_b gS2 q; (first | (apply Int.le_antisymm <;> omega) | omega)
              refine lv_aload_n hx hb d_CO_codeBranching_177 rfl (lv_at hl 0 rfl) ?_
              have hPc := hP.sb (wq := (wz_156 h0 pr kn lt h0_localCount pe h0_pendingCount h0_gives h0_depth h0_loopDepth to bo cs se pe cpe gpe bo bob bo_length bob cbob gbob)) [0, 2, 3, 4] rfl
              have hDc := hD.sb (wq := (wz_156 h0 pr kn lt h0_localCount pe h0_pendingCount h0_gives h0_depth h0_loopDepth to bo cs se pe cpe gpe bo bob bo_length bob cbob gbob)) [0, 2, 3, 4] (by decide) rfl
              have hKc := hK.sb (tyq := [(cpe, .int), (cbob, .byte)]) [0, 1] rfl
              have hFc := va_free (wc := (wz_156 h0 pr kn lt h0_localCount pe h0_pendingCount h0_gives h0_depth h0_loopDepth to bo cs se pe cpe gpe bo bob bo_length bob cbob gbob)) hD hS hA [0, 2, 3, 4] rfl
              refine va_callv (va_runV (As := []) (rest := []) ⟨hx, hb, hml, hown, hts⟩ (c_CO_endLoop l dC dI H.size h0 pr kn lt pe to bo cs se bob cpe cbob h0_localCount h0_pendingCount h0_gives h0_depth h0_loopDepth gpe bo_length gbob (b_h0_pendingCount) (b_bo_length) (by (first | (apply Int.le_antisymm <;> omega) | omega)) (by (first | (apply Int.le_antisymm <;> omega) | omega)) (by (first | (apply Int.le_antisymm <;> omega) | omega))) (cwV 0 hts (gV kM_CO_285 kV_CO_endLoop kS_CO_endLoop kI_CO kC_CO_endLoop) rfl rfl rfl (by decide +kernel) ⟨Nat.le_of_ble_eq_true rfl, Nat.le_of_ble_eq_true rfl⟩) ⟨fun a U g mk z => by obtain ⟨z0, z1, zP, zK, zD⟩ := z; exact ⟨z0, z1, zP, va_K.moved (u := U) (U := U.calling g mk a) (Vm.Alike.refl U.vm) zK, zD⟩, va_recv hKc hPc (ci := 2) (q0 := 0) rfl rfl, fun U hU hW => ⟨rfl, by rw [hU], va_P.he hU.symm hPc, va_K.moved hW.alike hKc, hDc.weaken (fun _ _ _ _ => trivial)⟩⟩ rfl rfl hl.1 rfl (lv_room (Nat.le_of_ble_eq_true rfl)) d_CO_codeBranching_178 ⟨(Nat.zero_le _), (Nat.zero_le _)⟩) hS (fun q _ h => hFc q h) hFc (fun u t H1 locs ht hvm hw hB hz1 hk1 hS => ?_)
              obtain ⟨n49, n50, n51, n52, n53⟩ := u
              try dsimp only at hw
              obtain ⟨bn50, bn53, xr48⟩ := hw
              try clear hw
              obtain ⟨hP1, hK1, hD1⟩ := hB
              replace hP1 := va_P.he ht hP1
              obtain ⟨hP, hD⟩ := va_join (wr := [(pr, .inr (6, [.ref gl, .ref fu, .ref pa, .ref pf, .ref sf, .ref pk, .ref pg, .ref pp, .ref pz, .ref pv, .int pr_reason, .int pr_place, .ref pr_scanner_r, .int pr_stepCount, .int pr_open, .int pr_twoSides, .ref pr_waiting_r, .ref pr_waitingPlaces_r, .int pr_waitingCount])), (kn, .inr (5, [.ref tr, .ref kns, .ref knz, .ref knt, .ref knv, .int kn_length])), (pk, .inl (cpk, 4100, .inl gpk)), (pp, .inl (cpp, 4100, .inl gpp))]) (w1 := (wz_156 h0 pr kn lt h0_localCount pe n53 h0_gives n51 n52 to bo cs se pe cpe gpe bo bob n50 bob cbob n49)) hP hD [0, 2, 3, 4] [1, 5, 6, 7] rfl rfl (by decide) (by decide) hk1 hFc hP1 hD1
              clear hPc hDc hKc hFc hz1 hk1 hP1 hK1 hD1
              rename Heap => H
              have hP : va_P (dC, dI) cls (wz_193 pr gl fu pa pf sf pk pg pp pz pv pr_reason pr_place pr_scanner_r pr_stepCount pr_open pr_twoSides pr_waiting_r pr_waitingPlaces_r pr_waitingCount kn tr kns knz knt knv kn_length pk cpk gpk pp cpp gpp h0 pr kn lt h0_localCount pe n53 h0_gives n51 n52 to bo cs se pe cpe gpe bo bob n50 bob cbob n49) H := hP
              have hD : va_D A (wz_193 pr gl fu pa pf sf pk pg pp pz pv pr_reason pr_place pr_scanner_r pr_stepCount pr_open pr_twoSides pr_waiting_r pr_waitingPlaces_r pr_waitingCount kn tr kns knz knt knv kn_length pk cpk gpk pp cpp gpp h0 pr kn lt h0_localCount pe n53 h0_gives n51 n52 to bo cs se pe cpe gpe bo bob n50 bob cbob n49) := hD
              refine lv_goto (tgt := 209) hx hb d_CO_codeBranching_181 (by decide) ?_
              have hP9 := hP.sb (wq := (wz_187 h0 pr kn lt h0_localCount pe n53 h0_gives n51 n52 to bo cs se pr gl fu pa pf sf pk pg pp pz pv pr_reason pr_place pr_scanner_r pr_stepCount pr_open pr_twoSides pr_waiting_r pr_waitingPlaces_r pr_waitingCount pe cpe gpe bo bob n50 bob cbob n49 kn tr kns knz knt knv kn_length pk cpk gpk pp cpp gpp)) [4, 0, 5, 6, 7, 1, 2, 3] rfl
              have hD9 := hD.sb (wq := (wz_187 h0 pr kn lt h0_localCount pe n53 h0_gives n51 n52 to bo cs se pr gl fu pa pf sf pk pg pp pz pv pr_reason pr_place pr_scanner_r pr_stepCount pr_open pr_twoSides pr_waiting_r pr_waitingPlaces_r pr_waitingCount pe cpe gpe bo bob n50 bob cbob n49 kn tr kns knz knt knv kn_length pk cpk gpk pp cpp gpp)) [4, 0, 5, 6, 7, 1, 2, 3] (by decide) rfl
              exact tz_up (fun _ => rfl) (W.vret hx hb hr (fun t ht hW => ⟨⟨(n49, gpe, n50, n51, n52, n53, kn_length, pr_place, pr_reason), ⟨rfl, ⟨bn50, bn53, b_kn_length, ⟨by (try dsimp only); have hI := hI.out; rw [xr48.2.2.2, ec, show n51.toInt = h0_depth.toInt - 2 from xr48.2.1, xr48.1.2]; rw [eS, pl_s (n := h0_pendingCount.toNatClampNeg) (m := n53.toNatClampNeg) (by have := i32_clamp (x := n53) (by (first | (apply Int.le_antisymm <;> omega) | omega)); (first | (apply Int.le_antisymm <;> omega) | omega))] at hI; exact cI_pool hI, by (try dsimp only) <;> (first | (apply Int.le_antisymm <;> omega) | omega)⟩⟩⟩, va_P.he ht.symm hP9, va_K.moved hW.alike hK, hD9⟩, hS.F ht⟩) hS.2.2 d_CO_codeBranching_209)
            · skip
              by_cases g9_184 : x1.toInt = 19
              · have ho9 : tab_off 189 13 19 #[43, 86, 97, 119, 126, 168, 175] x1.toInt = 175 := by rw [g9_184]; rfl
                refine lv_tab (tgt := 184) hx hb d_CO_codeBranching_9 (by decide) ho9 (by decide) ?_
                clear ho9
                have h9 : (gpk p0.toNatClampNeg).toInt = 19 := by rw [← ex1]; (first | (apply Int.le_antisymm <;> omega) | omega)
                have s9 := sI_19 hs.out h9
                obtain ⟨ec, eS2⟩ := s9
                have q2 : gS2.length = gS.length + 1 := by rw [eS2, List.length_cons]
                refine lv_aload_n hx hb d_CO_codeBranching_184 rfl (lv_at hl 0 rfl) ?_
                refine lv_aload_n hx hb d_CO_codeBranching_185 rfl (lv_at hl 0 rfl) ?_
                refine va_get (D := (dC, dI)) (ci := 2) (v := .ref kn) (C := R_CO) (T := F_CO) (N := 13) hx hb hts i_CO hown hK hP 0 rfl rfl 1 (by decide) (hts _ kF_CO_54) (fun _ h9 => h9) rfl d_CO_codeBranching_186 ?_
                refine va_get (D := (dC, dI)) (ci := 5) (v := .int kn_length) (C := R_NA) (T := F_NA) (N := 6) hx hb hts i_NA hown hK hP 5 rfl rfl 5 (by decide) (hts _ kF_CO_68) (fun _ h9 => h9) rfl d_CO_codeBranching_189 ?_
                have hPc := hP.sb (wq := (wz_149 h0 pr kn lt h0_localCount pe h0_pendingCount h0_gives h0_depth h0_loopDepth to bo cs se pe cpe gpe)) [0, 2] rfl
                have hDc := hD.sb (wq := (wz_149 h0 pr kn lt h0_localCount pe h0_pendingCount h0_gives h0_depth h0_loopDepth to bo cs se pe cpe gpe)) [0, 2] (by decide) rfl
                have hKc := hK.sb (tyq := [(cpe, .int)]) [0] rfl
                have hFc := va_free (wc := (wz_149 h0 pr kn lt h0_localCount pe h0_pendingCount h0_gives h0_depth h0_loopDepth to bo cs se pe cpe gpe)) hD hS hA [0, 2] rfl
                refine va_callv (va_runV (As := [.int kn_length]) (rest := []) ⟨hx, hb, hml, hown, hts⟩ (c_CO_push l dC dI H.size h0 pr kn lt pe to bo cs se cpe h0_localCount h0_pendingCount h0_gives h0_depth h0_loopDepth gpe (b_h0_pendingCount) kn_length (by (first | (apply Int.le_antisymm <;> omega) | omega))) (cwV 1 hts (gV kM_CO_183 kV_CO_push kS_CO_push kI_CO kC_CO_push) rfl rfl rfl (by decide +kernel) ⟨Nat.le_of_ble_eq_true rfl, Nat.le_of_ble_eq_true rfl⟩) ⟨fun a U g mk z => by obtain ⟨z0, z1, zP, zK, zD⟩ := z; exact ⟨z0, z1, zP, va_K.moved (u := U) (U := U.calling g mk a) (Vm.Alike.refl U.vm) zK, zD⟩, va_recv hKc hPc (ci := 2) (q0 := 0) rfl rfl, fun U hU hW => ⟨rfl, by rw [hU], va_P.he hU.symm hPc, va_K.moved hW.alike hKc, hDc.weaken (fun _ _ _ _ => trivial)⟩⟩ rfl rfl hl.1 rfl (lv_room (Nat.le_of_ble_eq_true rfl)) d_CO_codeBranching_192 ⟨(Nat.zero_le _), (Nat.zero_le _)⟩) hS (fun q _ h => hFc q h) hFc (fun u t H1 locs ht hvm hw hB hz1 hk1 hS => ?_)
                obtain ⟨n55, n56⟩ := u
                try dsimp only at hw
                obtain ⟨bn56, xr54⟩ := hw
                try clear hw
                obtain ⟨hP1, hK1, hD1⟩ := hB
                replace hP1 := va_P.he ht hP1
                obtain ⟨hP, hD⟩ := va_join (wr := [(pr, .inr (6, [.ref gl, .ref fu, .ref pa, .ref pf, .ref sf, .ref pk, .ref pg, .ref pp, .ref pz, .ref pv, .int pr_reason, .int pr_place, .ref pr_scanner_r, .int pr_stepCount, .int pr_open, .int pr_twoSides, .ref pr_waiting_r, .ref pr_waitingPlaces_r, .int pr_waitingCount])), (bo, .inr (1, [.ref bob, .int bo_length])), (bob, .inl (cbob, 8192, .inl gbob)), (kn, .inr (5, [.ref tr, .ref kns, .ref knz, .ref knt, .ref knv, .int kn_length])), (pk, .inl (cpk, 4100, .inl gpk)), (pp, .inl (cpp, 4100, .inl gpp))]) (w1 := (wz_149 h0 pr kn lt h0_localCount pe n56 h0_gives h0_depth h0_loopDepth to bo cs se pe cpe n55)) hP hD [0, 2] [1, 3, 4, 5, 6, 7] rfl rfl (by decide) (by decide) hk1 hFc hP1 hD1
                clear hPc hDc hKc hFc hz1 hk1 hP1 hK1 hD1
                rename Heap => H
                have hP : va_P (dC, dI) cls (wz_194 pr gl fu pa pf sf pk pg pp pz pv pr_reason pr_place pr_scanner_r pr_stepCount pr_open pr_twoSides pr_waiting_r pr_waitingPlaces_r pr_waitingCount bo bob bo_length bob cbob gbob kn tr kns knz knt knv kn_length pk cpk gpk pp cpp gpp h0 pr kn lt h0_localCount pe n56 h0_gives h0_depth h0_loopDepth to bo cs se pe cpe n55) H := hP
                have hD : va_D A (wz_194 pr gl fu pa pf sf pk pg pp pz pv pr_reason pr_place pr_scanner_r pr_stepCount pr_open pr_twoSides pr_waiting_r pr_waitingPlaces_r pr_waitingCount bo bob bo_length bob cbob gbob kn tr kns knz knt knv kn_length pk cpk gpk pp cpp gpp h0 pr kn lt h0_localCount pe n56 h0_gives h0_depth h0_loopDepth to bo cs se pe cpe n55) := hD
                refine lv_goto (tgt := 209) hx hb d_CO_codeBranching_195 (by decide) ?_
                have hP9 := hP.sb (wq := (wz_187 h0 pr kn lt h0_localCount pe n56 h0_gives h0_depth h0_loopDepth to bo cs se pr gl fu pa pf sf pk pg pp pz pv pr_reason pr_place pr_scanner_r pr_stepCount pr_open pr_twoSides pr_waiting_r pr_waitingPlaces_r pr_waitingCount pe cpe n55 bo bob bo_length bob cbob gbob kn tr kns knz knt knv kn_length pk cpk gpk pp cpp gpp)) [6, 0, 7, 1, 2, 3, 4, 5] rfl
                have hD9 := hD.sb (wq := (wz_187 h0 pr kn lt h0_localCount pe n56 h0_gives h0_depth h0_loopDepth to bo cs se pr gl fu pa pf sf pk pg pp pz pv pr_reason pr_place pr_scanner_r pr_stepCount pr_open pr_twoSides pr_waiting_r pr_waitingPlaces_r pr_waitingCount pe cpe n55 bo bob bo_length bob cbob gbob kn tr kns knz knt knv kn_length pk cpk gpk pp cpp gpp)) [6, 0, 7, 1, 2, 3, 4, 5] (by decide) rfl
                exact tz_up (fun _ => rfl) (W.vret hx hb hr (fun t ht hW => ⟨⟨(gbob, n55, bo_length, h0_depth, h0_loopDepth, n56, kn_length, pr_place, pr_reason), ⟨rfl, ⟨b_bo_length, bn56, b_kn_length, ⟨by (try dsimp only); have hI := hI.out; rw [eS2, ec, xr54.2, show n56.toNatClampNeg = h0_pendingCount.toNatClampNeg + 1 from clampN (by have := xr54.1; (first | (apply Int.le_antisymm <;> omega) | omega)), pl_put]; exact cI_open hI, by (try dsimp only) <;> (first | (apply Int.le_antisymm <;> omega) | omega)⟩⟩⟩, va_P.he ht.symm hP9, va_K.moved hW.alike hK, hD9⟩, hS.F ht⟩) hS.2.2 d_CO_codeBranching_209)
              · skip
                have ho9 : tab_off 189 13 19 #[43, 86, 97, 119, 126, 168, 175] x1.toInt = 189 := by
                  unfold tab_off
                  split
                  · rfl
                  · exfalso; (first | (apply Int.le_antisymm <;> omega) | omega)
                refine lv_tab (tgt := 198) hx hb d_CO_codeBranching_9 (by decide) ho9 (by decide) ?_
                clear ho9
                have h9 : (gpk p0.toNatClampNeg).toInt = 20 := by rw [← ex1]; (first | (apply Int.le_antisymm <;> omega) | omega)
                have s9 := sI_20 hs.out h9
                obtain ⟨ec, eS⟩ := s9
                have q1 := hI.out.1
                rw [eS] at q1
                have q1 := cJ_pos q1 (by decide)
                refine lv_aload_n hx hb d_CO_codeBranching_198 rfl (lv_at hl 0 rfl) ?_
                refine va_get (D := (dC, dI)) (ci := 2) (v := .ref kn) (C := R_CO) (T := F_CO) (N := 13) hx hb hts i_CO hown hK hP 0 rfl rfl 1 (by decide) (hts _ kF_CO_54) (fun _ h9 => h9) rfl d_CO_codeBranching_199 ?_
                refine lv_aload_n hx hb d_CO_codeBranching_202 rfl (lv_at hl 0 rfl) ?_
                have hPc := hP.sb (wq := (wz_149 h0 pr kn lt h0_localCount pe h0_pendingCount h0_gives h0_depth h0_loopDepth to bo cs se pe cpe gpe)) [0, 2] rfl
                have hDc := hD.sb (wq := (wz_149 h0 pr kn lt h0_localCount pe h0_pendingCount h0_gives h0_depth h0_loopDepth to bo cs se pe cpe gpe)) [0, 2] (by decide) rfl
                have hKc := hK.sb (tyq := [(cpe, .int)]) [0] rfl
                have hFc := va_free (wc := (wz_149 h0 pr kn lt h0_localCount pe h0_pendingCount h0_gives h0_depth h0_loopDepth to bo cs se pe cpe gpe)) hD hS hA [0, 2] rfl
                refine va_calli (va_runV (As := []) (rest := [.ref kn]) ⟨hx, hb, hml, hown, hts⟩ (c_CO_pop l dC dI H.size h0 pr kn lt pe to bo cs se cpe h0_localCount h0_pendingCount h0_gives h0_depth h0_loopDepth gpe (b_h0_pendingCount) (by (first | (apply Int.le_antisymm <;> omega) | omega))) (cwV 0 hts (gV kM_CO_224 kV_CO_pop kS_CO_pop kI_CO kC_CO_pop) rfl rfl rfl (by decide +kernel) ⟨Nat.le_of_ble_eq_true rfl, Nat.le_of_ble_eq_true rfl⟩) ⟨fun a U g mk z => by obtain ⟨z0, z1, zP, zK, zD⟩ := z; exact ⟨z0, z1, zP, va_K.moved (u := U) (U := U.calling g mk a) (Vm.Alike.refl U.vm) zK, zD⟩, va_recv hKc hPc (ci := 2) (q0 := 0) rfl rfl, fun U hU hW => ⟨rfl, by rw [hU], va_P.he hU.symm hPc, va_K.moved hW.alike hKc, hDc.weaken (fun _ _ _ _ => trivial)⟩⟩ rfl rfl hl.1 rfl (lv_room (Nat.le_of_ble_eq_true rfl)) d_CO_codeBranching_203 ⟨(Nat.zero_le _), (Nat.zero_le _)⟩) hS (fun q _ h => hFc q h) hFc (fun r57 u t H1 locs ht hvm hw hB hz1 hk1 hS => ?_)
                obtain ⟨n58, rfl⟩ : ∃ z, z = u := ⟨_, rfl⟩
                try dsimp only at hw
                obtain ⟨bn58, xr57⟩ := hw
                try clear hw
                have hi8 := hI.out
                rw [eS, pl_s (n := h0_pendingCount.toNatClampNeg) (m := n58.toNatClampNeg) (by have := i32_clamp (x := n58) (by (first | (apply Int.le_antisymm <;> omega) | omega)); (first | (apply Int.le_antisymm <;> omega) | omega))] at hi8
                have k206 := cI_shut hi8
                have k207 := k206.2
                rw [← xr57.2] at k207
                obtain ⟨hP1, hK1, hD1⟩ := hB
                replace hP1 := va_P.he ht hP1
                obtain ⟨hP, hD⟩ := va_join (wr := [(pr, .inr (6, [.ref gl, .ref fu, .ref pa, .ref pf, .ref sf, .ref pk, .ref pg, .ref pp, .ref pz, .ref pv, .int pr_reason, .int pr_place, .ref pr_scanner_r, .int pr_stepCount, .int pr_open, .int pr_twoSides, .ref pr_waiting_r, .ref pr_waitingPlaces_r, .int pr_waitingCount])), (bo, .inr (1, [.ref bob, .int bo_length])), (bob, .inl (cbob, 8192, .inl gbob)), (kn, .inr (5, [.ref tr, .ref kns, .ref knz, .ref knt, .ref knv, .int kn_length])), (pk, .inl (cpk, 4100, .inl gpk)), (pp, .inl (cpp, 4100, .inl gpp))]) (w1 := (wz_149 h0 pr kn lt h0_localCount pe n58 h0_gives h0_depth h0_loopDepth to bo cs se pe cpe gpe)) hP hD [0, 2] [1, 3, 4, 5, 6, 7] rfl rfl (by decide) (by decide) hk1 hFc hP1 hD1
                clear hPc hDc hKc hFc hz1 hk1 hP1 hK1 hD1
                rename Heap => H
                have hP : va_P (dC, dI) cls (wz_194 pr gl fu pa pf sf pk pg pp pz pv pr_reason pr_place pr_scanner_r pr_stepCount pr_open pr_twoSides pr_waiting_r pr_waitingPlaces_r pr_waitingCount bo bob bo_length bob cbob gbob kn tr kns knz knt knv kn_length pk cpk gpk pp cpp gpp h0 pr kn lt h0_localCount pe n58 h0_gives h0_depth h0_loopDepth to bo cs se pe cpe gpe) H := hP
                have hD : va_D A (wz_194 pr gl fu pa pf sf pk pg pp pz pv pr_reason pr_place pr_scanner_r pr_stepCount pr_open pr_twoSides pr_waiting_r pr_waitingPlaces_r pr_waitingCount bo bob bo_length bob cbob gbob kn tr kns knz knt knv kn_length pk cpk gpk pp cpp gpp h0 pr kn lt h0_localCount pe n58 h0_gives h0_depth h0_loopDepth to bo cs se pe cpe gpe) := hD
                refine va_put (D := (dC, dI)) (ci := 5) (v := .int r57) (ty := .int) (C := R_NA) (T := F_NA) (N := 6) hx hb hts i_NA t_NA t_NA_ok n_NA hown hK hP hD hS 3 rfl rfl 5 (by decide) (hts _ kF_CO_68) (fun _ h9 => h9) rfl (by decide +kernel) rfl rfl (Nat.le_of_ble_eq_true rfl) d_CO_codeBranching_206 (fun H locs hP hD hS => ?_)
                have hP9 := hP.sb (wq := (wz_187 h0 pr kn lt h0_localCount pe n58 h0_gives h0_depth h0_loopDepth to bo cs se pr gl fu pa pf sf pk pg pp pz pv pr_reason pr_place pr_scanner_r pr_stepCount pr_open pr_twoSides pr_waiting_r pr_waitingPlaces_r pr_waitingCount pe cpe gpe bo bob bo_length bob cbob gbob kn tr kns knz knt knv r57 pk cpk gpk pp cpp gpp)) [6, 0, 7, 1, 2, 3, 4, 5] rfl
                have hD9 := hD.sb (wq := (wz_187 h0 pr kn lt h0_localCount pe n58 h0_gives h0_depth h0_loopDepth to bo cs se pr gl fu pa pf sf pk pg pp pz pv pr_reason pr_place pr_scanner_r pr_stepCount pr_open pr_twoSides pr_waiting_r pr_waitingPlaces_r pr_waitingCount pe cpe gpe bo bob bo_length bob cbob gbob kn tr kns knz knt knv r57 pk cpk gpk pp cpp gpp)) [6, 0, 7, 1, 2, 3, 4, 5] (by decide) rfl
                exact tz_up (fun _ => rfl) (W.vret hx hb hr (fun t ht hW => ⟨⟨(gbob, gpe, bo_length, h0_depth, h0_loopDepth, n58, r57, pr_place, pr_reason), ⟨rfl, ⟨b_bo_length, bn58, by (try dsimp only) <;> (first | (apply Int.le_antisymm <;> omega) | omega), ⟨by (try dsimp only); rw [ec, xr57.2]; exact k206.1, by (try dsimp only) <;> (first | (apply Int.le_antisymm <;> omega) | omega)⟩⟩⟩, va_P.he ht.symm hP9, va_K.moved hW.alike hK, hD9⟩, hS.F ht⟩) hS.2.2 d_CO_codeBranching_209)
end q_74
section q_75
/-! Coder: statements -/
theorem kq_add {n n2 lc lc2 y : Int32} {kt kt2 : Nat → Int32} {kv kv2 : Nat → Int64} (h : kq n.toInt kt kv lc.toInt) (h0 : 0 ≤ n.toInt) (l0 : 0 ≤ lc.toInt) (e1 : n2.toInt = n.toInt + 1) (e2 : lc2.toInt = lc.toInt + 1) (e3 : kt2 = upd kt n.toNatClampNeg y) (e4 : kv2 = vp_updL kv n.toNatClampNeg lc.toInt64) (hy : y.toInt = 127 ∨ y.toInt = 126) : kq n2.toInt kt2 kv2 lc2.toInt := by
  have c := i32_clamp (x := n) h0
  intro j hj
  subst e3; subst e4
  by_cases q : j = n.toNatClampNeg
  · subst q
    rw [pk_us, show vp_updL kv n.toNatClampNeg lc.toInt64 n.toNatClampNeg = lc.toInt64 from if_pos rfl, Int32.toInt_toInt64]
    exact ⟨hy, l0, by (first | (apply Int.le_antisymm <;> omega) | omega)⟩
  · rw [pk_un q, uL_un q]
    have := h j (by (first | (apply Int.le_antisymm <;> omega) | omega))
    exact ⟨this.1, this.2.1, by (first | (apply Int.le_antisymm <;> omega) | omega)⟩
theorem gq_add {n n2 y : Int32} {t t2 : Nat → Int32} (h : gq n.toInt t) (h0 : 0 ≤ n.toInt) (e1 : n2.toInt = n.toInt + 1) (e3 : t2 = upd t n.toNatClampNeg y) (hy : y.toInt = 127 ∨ y.toInt = 126) : gq n2.toInt t2 := by
  have c := i32_clamp (x := n) h0
  intro j hj
  subst e3
  by_cases q : j = n.toNatClampNeg
  · subst q
    rw [pk_us]
    exact hy
  · rw [pk_un q]
    exact h j (by (first | (apply Int.le_antisymm <;> omega) | omega))
abbrev b_CO_codeStatement : ByteArray := prog_4_method_14_code
def y_CO_codeStatement : MethodName := ⟨R_CO, "codeStatement", "(I)V"⟩
abbrev w_CO_codeStatement : List Cond := .code y_CO_codeStatement b_CO_codeStatement 6 none :: lw_g
theorem kC_CO_codeStatement : Cond.code y_CO_codeStatement b_CO_codeStatement 6 none ∈ lw_g := in_c5 230 rfl rfl
theorem d_CO_codeStatement_0 : decode b_CO_codeStatement 0 = .ok (.aload_n 0, 1) := bz_c42 (by decide +kernel)
theorem d_CO_codeStatement_1 : decode b_CO_codeStatement 1 = .ok (.getfield 36, 3) := bz_c180 (by decide +kernel)
theorem d_CO_codeStatement_4 : decode b_CO_codeStatement 4 = .ok (.getfield 166, 3) := bz_c180 (by decide +kernel)
theorem d_CO_codeStatement_7 : decode b_CO_codeStatement 7 = .ok (.iload_n 1, 1) := bz_c27 (by decide +kernel)
theorem d_CO_codeStatement_8 : decode b_CO_codeStatement 8 = .ok (.aaload, 1) := bz_c50 (by decide +kernel)
theorem d_CO_codeStatement_9 : decode b_CO_codeStatement 9 = .ok (.astore_n 2, 1) := bz_c77 (by decide +kernel)
theorem d_CO_codeStatement_10 : decode b_CO_codeStatement 10 = .ok (.aload_n 0, 1) := bz_c42 (by decide +kernel)
theorem d_CO_codeStatement_11 : decode b_CO_codeStatement 11 = .ok (.getfield 36, 3) := bz_c180 (by decide +kernel)
theorem d_CO_codeStatement_14 : decode b_CO_codeStatement 14 = .ok (.getfield 193, 3) := bz_c180 (by decide +kernel)
theorem d_CO_codeStatement_17 : decode b_CO_codeStatement 17 = .ok (.iload_n 1, 1) := bz_c27 (by decide +kernel)
theorem d_CO_codeStatement_18 : decode b_CO_codeStatement 18 = .ok (.iaload, 1) := bz_c46 (by decide +kernel)
theorem d_CO_codeStatement_19 : decode b_CO_codeStatement 19 = .ok (.istore_n 3, 1) := bz_c62 (by decide +kernel)
theorem d_CO_codeStatement_20 : decode b_CO_codeStatement 20 = .ok (.aload_n 0, 1) := bz_c42 (by decide +kernel)
theorem d_CO_codeStatement_21 : decode b_CO_codeStatement 21 = .ok (.getfield 36, 3) := bz_c180 (by decide +kernel)
theorem d_CO_codeStatement_24 : decode b_CO_codeStatement 24 = .ok (.getfield 143, 3) := bz_c180 (by decide +kernel)
theorem d_CO_codeStatement_27 : decode b_CO_codeStatement 27 = .ok (.iload_n 1, 1) := bz_c27 (by decide +kernel)
theorem d_CO_codeStatement_28 : decode b_CO_codeStatement 28 = .ok (.iaload, 1) := bz_c46 (by decide +kernel)
theorem d_CO_codeStatement_29 : decode b_CO_codeStatement 29 = .ok (.tableswitch 214 8 11 #[31, 104, 112, 133], 31) := by decide +kernel
theorem d_CO_codeStatement_60 : decode b_CO_codeStatement 60 = .ok (.aload_n 0, 1) := bz_c42 (by decide +kernel)
theorem d_CO_codeStatement_61 : decode b_CO_codeStatement 61 = .ok (.invokevirtual 224, 3) := bz_c182 (by decide +kernel)
theorem d_CO_codeStatement_64 : decode b_CO_codeStatement 64 = .ok (.aload_n 2, 1) := bz_c44 (by decide +kernel)
theorem d_CO_codeStatement_65 : decode b_CO_codeStatement 65 = .ok (.invokevirtual 170, 3) := bz_c182 (by decide +kernel)
theorem d_CO_codeStatement_68 : decode b_CO_codeStatement 68 = .ok (.if_icmp .eq 12, 3) := bz_c159 (by decide +kernel)
theorem d_CO_codeStatement_71 : decode b_CO_codeStatement 71 = .ok (.aload_n 0, 1) := bz_c42 (by decide +kernel)
theorem d_CO_codeStatement_72 : decode b_CO_codeStatement 72 = .ok (.getfield 36, 3) := bz_c180 (by decide +kernel)
theorem d_CO_codeStatement_75 : decode b_CO_codeStatement 75 = .ok (.iconst 3, 1) := bz_c6 (by decide +kernel)
theorem d_CO_codeStatement_76 : decode b_CO_codeStatement 76 = .ok (.iload_n 3, 1) := bz_c29 (by decide +kernel)
theorem d_CO_codeStatement_77 : decode b_CO_codeStatement 77 = .ok (.invokevirtual 105, 3) := bz_c182 (by decide +kernel)
theorem d_CO_codeStatement_80 : decode b_CO_codeStatement 80 = .ok (.aload_n 0, 1) := bz_c42 (by decide +kernel)
theorem d_CO_codeStatement_81 : decode b_CO_codeStatement 81 = .ok (.aload_n 0, 1) := bz_c42 (by decide +kernel)
theorem d_CO_codeStatement_82 : decode b_CO_codeStatement 82 = .ok (.getfield 36, 3) := bz_c180 (by decide +kernel)
theorem d_CO_codeStatement_85 : decode b_CO_codeStatement 85 = .ok (.getfield 175, 3) := bz_c180 (by decide +kernel)
theorem d_CO_codeStatement_88 : decode b_CO_codeStatement 88 = .ok (.iload_n 1, 1) := bz_c27 (by decide +kernel)
theorem d_CO_codeStatement_89 : decode b_CO_codeStatement 89 = .ok (.laload, 1) := bz_c47 (by decide +kernel)
theorem d_CO_codeStatement_90 : decode b_CO_codeStatement 90 = .ok (.l2i, 1) := bz_c136 (by decide +kernel)
theorem d_CO_codeStatement_91 : decode b_CO_codeStatement 91 = .ok (.aload_n 0, 1) := bz_c42 (by decide +kernel)
theorem d_CO_codeStatement_92 : decode b_CO_codeStatement 92 = .ok (.getfield 36, 3) := bz_c180 (by decide +kernel)
theorem d_CO_codeStatement_95 : decode b_CO_codeStatement 95 = .ok (.getfield 216, 3) := bz_c180 (by decide +kernel)
theorem d_CO_codeStatement_98 : decode b_CO_codeStatement 98 = .ok (.iload_n 1, 1) := bz_c27 (by decide +kernel)
theorem d_CO_codeStatement_99 : decode b_CO_codeStatement 99 = .ok (.iaload, 1) := bz_c46 (by decide +kernel)
theorem d_CO_codeStatement_100 : decode b_CO_codeStatement 100 = .ok (.aload_n 2, 1) := bz_c44 (by decide +kernel)
theorem d_CO_codeStatement_101 : decode b_CO_codeStatement 101 = .ok (.invokevirtual 170, 3) := bz_c182 (by decide +kernel)
theorem d_CO_codeStatement_104 : decode b_CO_codeStatement 104 = .ok (.iload_n 3, 1) := bz_c29 (by decide +kernel)
theorem d_CO_codeStatement_105 : decode b_CO_codeStatement 105 = .ok (.invokevirtual 136, 3) := bz_c182 (by decide +kernel)
theorem d_CO_codeStatement_108 : decode b_CO_codeStatement 108 = .ok (.aload_n 0, 1) := bz_c42 (by decide +kernel)
theorem d_CO_codeStatement_109 : decode b_CO_codeStatement 109 = .ok (.getfield 26, 3) := bz_c180 (by decide +kernel)
theorem d_CO_codeStatement_112 : decode b_CO_codeStatement 112 = .ok (.bipush 33, 2) := bz_c16 (by decide +kernel)
theorem d_CO_codeStatement_114 : decode b_CO_codeStatement 114 = .ok (.invokevirtual 76, 3) := bz_c182 (by decide +kernel)
theorem d_CO_codeStatement_117 : decode b_CO_codeStatement 117 = .ok (.aload_n 0, 1) := bz_c42 (by decide +kernel)
theorem d_CO_codeStatement_118 : decode b_CO_codeStatement 118 = .ok (.getfield 26, 3) := bz_c180 (by decide +kernel)
theorem d_CO_codeStatement_121 : decode b_CO_codeStatement 121 = .ok (.aload_n 0, 1) := bz_c42 (by decide +kernel)
theorem d_CO_codeStatement_122 : decode b_CO_codeStatement 122 = .ok (.getfield 109, 3) := bz_c180 (by decide +kernel)
theorem d_CO_codeStatement_125 : decode b_CO_codeStatement 125 = .ok (.iconst 1, 1) := bz_c4 (by decide +kernel)
theorem d_CO_codeStatement_126 : decode b_CO_codeStatement 126 = .ok (.isub, 1) := bz_c100 (by decide +kernel)
theorem d_CO_codeStatement_127 : decode b_CO_codeStatement 127 = .ok (.invokevirtual 218, 3) := bz_c182 (by decide +kernel)
theorem d_CO_codeStatement_130 : decode b_CO_codeStatement 130 = .ok (.goto 168, 3) := bz_c167 (by decide +kernel)
theorem d_CO_codeStatement_133 : decode b_CO_codeStatement 133 = .ok (.aload_n 0, 1) := bz_c42 (by decide +kernel)
theorem d_CO_codeStatement_134 : decode b_CO_codeStatement 134 = .ok (.iload_n 1, 1) := bz_c27 (by decide +kernel)
theorem d_CO_codeStatement_135 : decode b_CO_codeStatement 135 = .ok (.invokevirtual 273, 3) := bz_c182 (by decide +kernel)
theorem d_CO_codeStatement_138 : decode b_CO_codeStatement 138 = .ok (.goto 160, 3) := bz_c167 (by decide +kernel)
theorem d_CO_codeStatement_141 : decode b_CO_codeStatement 141 = .ok (.aload_n 0, 1) := bz_c42 (by decide +kernel)
theorem d_CO_codeStatement_142 : decode b_CO_codeStatement 142 = .ok (.invokevirtual 224, 3) := bz_c182 (by decide +kernel)
theorem d_CO_codeStatement_145 : decode b_CO_codeStatement 145 = .ok (.bipush 64, 2) := bz_c16 (by decide +kernel)
theorem d_CO_codeStatement_147 : decode b_CO_codeStatement 147 = .ok (.if_icmp .eq 151, 3) := bz_c159 (by decide +kernel)
theorem d_CO_codeStatement_150 : decode b_CO_codeStatement 150 = .ok (.aload_n 0, 1) := bz_c42 (by decide +kernel)
theorem d_CO_codeStatement_151 : decode b_CO_codeStatement 151 = .ok (.getfield 26, 3) := bz_c180 (by decide +kernel)
theorem d_CO_codeStatement_154 : decode b_CO_codeStatement 154 = .ok (.bipush 26, 2) := bz_c16 (by decide +kernel)
theorem d_CO_codeStatement_156 : decode b_CO_codeStatement 156 = .ok (.invokevirtual 76, 3) := bz_c182 (by decide +kernel)
theorem d_CO_codeStatement_159 : decode b_CO_codeStatement 159 = .ok (.goto 139, 3) := bz_c167 (by decide +kernel)
theorem d_CO_codeStatement_162 : decode b_CO_codeStatement 162 = .ok (.aload_n 0, 1) := bz_c42 (by decide +kernel)
theorem d_CO_codeStatement_163 : decode b_CO_codeStatement 163 = .ok (.getfield 36, 3) := bz_c180 (by decide +kernel)
theorem d_CO_codeStatement_166 : decode b_CO_codeStatement 166 = .ok (.getfield 175, 3) := bz_c180 (by decide +kernel)
theorem d_CO_codeStatement_169 : decode b_CO_codeStatement 169 = .ok (.iload_n 1, 1) := bz_c27 (by decide +kernel)
theorem d_CO_codeStatement_170 : decode b_CO_codeStatement 170 = .ok (.laload, 1) := bz_c47 (by decide +kernel)
theorem d_CO_codeStatement_171 : decode b_CO_codeStatement 171 = .ok (.lconst 0, 1) := bz_c9 (by decide +kernel)
theorem d_CO_codeStatement_172 : decode b_CO_codeStatement 172 = .ok (.lcmp, 1) := bz_c148 (by decide +kernel)
theorem d_CO_codeStatement_173 : decode b_CO_codeStatement 173 = .ok (.ifCond .eq 7, 3) := bz_c153 (by decide +kernel)
theorem d_CO_codeStatement_176 : decode b_CO_codeStatement 176 = .ok (.iconst 1, 1) := bz_c4 (by decide +kernel)
theorem d_CO_codeStatement_177 : decode b_CO_codeStatement 177 = .ok (.goto 4, 3) := bz_c167 (by decide +kernel)
theorem d_CO_codeStatement_180 : decode b_CO_codeStatement 180 = .ok (.iconst 0, 1) := bz_c3 (by decide +kernel)
theorem d_CO_codeStatement_181 : decode b_CO_codeStatement 181 = .ok (.istore 4, 2) := bz_c54 (by decide +kernel)
theorem d_CO_codeStatement_183 : decode b_CO_codeStatement 183 = .ok (.iload 4, 2) := bz_c21 (by decide +kernel)
theorem d_CO_codeStatement_185 : decode b_CO_codeStatement 185 = .ok (.ifCond .eq 10, 3) := bz_c153 (by decide +kernel)
theorem d_CO_codeStatement_188 : decode b_CO_codeStatement 188 = .ok (.aload_n 0, 1) := bz_c42 (by decide +kernel)
theorem d_CO_codeStatement_189 : decode b_CO_codeStatement 189 = .ok (.invokevirtual 224, 3) := bz_c182 (by decide +kernel)
theorem d_CO_codeStatement_192 : decode b_CO_codeStatement 192 = .ok (.goto 5, 3) := bz_c167 (by decide +kernel)
theorem d_CO_codeStatement_195 : decode b_CO_codeStatement 195 = .ok (.bipush 64, 2) := bz_c16 (by decide +kernel)
theorem d_CO_codeStatement_197 : decode b_CO_codeStatement 197 = .ok (.istore 5, 2) := bz_c54 (by decide +kernel)
theorem d_CO_codeStatement_199 : decode b_CO_codeStatement 199 = .ok (.iload 5, 2) := bz_c21 (by decide +kernel)
theorem d_CO_codeStatement_201 : decode b_CO_codeStatement 201 = .ok (.aload_n 0, 1) := bz_c42 (by decide +kernel)
theorem d_CO_codeStatement_202 : decode b_CO_codeStatement 202 = .ok (.getfield 124, 3) := bz_c180 (by decide +kernel)
theorem d_CO_codeStatement_205 : decode b_CO_codeStatement 205 = .ok (.if_icmp .ne 17, 3) := bz_c160 (by decide +kernel)
theorem d_CO_codeStatement_208 : decode b_CO_codeStatement 208 = .ok (.iload 4, 2) := bz_c21 (by decide +kernel)
theorem d_CO_codeStatement_210 : decode b_CO_codeStatement 210 = .ok (.ifCond .eq 21, 3) := bz_c153 (by decide +kernel)
theorem d_CO_codeStatement_213 : decode b_CO_codeStatement 213 = .ok (.aload_n 0, 1) := bz_c42 (by decide +kernel)
theorem d_CO_codeStatement_214 : decode b_CO_codeStatement 214 = .ok (.getfield 124, 3) := bz_c180 (by decide +kernel)
theorem d_CO_codeStatement_217 : decode b_CO_codeStatement 217 = .ok (.bipush 64, 2) := bz_c16 (by decide +kernel)
theorem d_CO_codeStatement_219 : decode b_CO_codeStatement 219 = .ok (.if_icmp .ne 12, 3) := bz_c160 (by decide +kernel)
theorem d_CO_codeStatement_222 : decode b_CO_codeStatement 222 = .ok (.aload_n 0, 1) := bz_c42 (by decide +kernel)
theorem d_CO_codeStatement_223 : decode b_CO_codeStatement 223 = .ok (.getfield 36, 3) := bz_c180 (by decide +kernel)
theorem d_CO_codeStatement_226 : decode b_CO_codeStatement 226 = .ok (.iconst 3, 1) := bz_c6 (by decide +kernel)
theorem d_CO_codeStatement_227 : decode b_CO_codeStatement 227 = .ok (.iload_n 3, 1) := bz_c29 (by decide +kernel)
theorem d_CO_codeStatement_228 : decode b_CO_codeStatement 228 = .ok (.invokevirtual 105, 3) := bz_c182 (by decide +kernel)
theorem d_CO_codeStatement_231 : decode b_CO_codeStatement 231 = .ok (.aload_n 0, 1) := bz_c42 (by decide +kernel)
theorem d_CO_codeStatement_232 : decode b_CO_codeStatement 232 = .ok (.getfield 26, 3) := bz_c180 (by decide +kernel)
theorem d_CO_codeStatement_235 : decode b_CO_codeStatement 235 = .ok (.bipush 15, 2) := bz_c16 (by decide +kernel)
theorem d_CO_codeStatement_237 : decode b_CO_codeStatement 237 = .ok (.invokevirtual 76, 3) := bz_c182 (by decide +kernel)
theorem d_CO_codeStatement_240 : decode b_CO_codeStatement 240 = .ok (.goto 58, 3) := bz_c167 (by decide +kernel)
theorem d_CO_codeStatement_243 : decode b_CO_codeStatement 243 = .ok (.aload_n 0, 1) := bz_c42 (by decide +kernel)
theorem d_CO_codeStatement_244 : decode b_CO_codeStatement 244 = .ok (.getfield 118, 3) := bz_c180 (by decide +kernel)
theorem d_CO_codeStatement_247 : decode b_CO_codeStatement 247 = .ok (.ifCond .ne 13, 3) := bz_c154 (by decide +kernel)
theorem d_CO_codeStatement_250 : decode b_CO_codeStatement 250 = .ok (.aload_n 0, 1) := bz_c42 (by decide +kernel)
theorem d_CO_codeStatement_251 : decode b_CO_codeStatement 251 = .ok (.getfield 36, 3) := bz_c180 (by decide +kernel)
theorem d_CO_codeStatement_254 : decode b_CO_codeStatement 254 = .ok (.bipush 6, 2) := bz_c16 (by decide +kernel)
theorem d_CO_codeStatement_256 : decode b_CO_codeStatement 256 = .ok (.iload_n 3, 1) := bz_c29 (by decide +kernel)
theorem d_CO_codeStatement_257 : decode b_CO_codeStatement 257 = .ok (.invokevirtual 105, 3) := bz_c182 (by decide +kernel)
theorem d_CO_codeStatement_260 : decode b_CO_codeStatement 260 = .ok (.aload_n 0, 1) := bz_c42 (by decide +kernel)
theorem d_CO_codeStatement_261 : decode b_CO_codeStatement 261 = .ok (.getfield 26, 3) := bz_c180 (by decide +kernel)
theorem d_CO_codeStatement_264 : decode b_CO_codeStatement 264 = .ok (.bipush 12, 2) := bz_c16 (by decide +kernel)
theorem d_CO_codeStatement_266 : decode b_CO_codeStatement 266 = .ok (.invokevirtual 76, 3) := bz_c182 (by decide +kernel)
theorem d_CO_codeStatement_269 : decode b_CO_codeStatement 269 = .ok (.aload_n 0, 1) := bz_c42 (by decide +kernel)
theorem d_CO_codeStatement_270 : decode b_CO_codeStatement 270 = .ok (.getfield 26, 3) := bz_c180 (by decide +kernel)
theorem d_CO_codeStatement_273 : decode b_CO_codeStatement 273 = .ok (.aload_n 0, 1) := bz_c42 (by decide +kernel)
theorem d_CO_codeStatement_274 : decode b_CO_codeStatement 274 = .ok (.getfield 115, 3) := bz_c180 (by decide +kernel)
theorem d_CO_codeStatement_277 : decode b_CO_codeStatement 277 = .ok (.aload_n 0, 1) := bz_c42 (by decide +kernel)
theorem d_CO_codeStatement_278 : decode b_CO_codeStatement 278 = .ok (.getfield 118, 3) := bz_c180 (by decide +kernel)
theorem d_CO_codeStatement_281 : decode b_CO_codeStatement 281 = .ok (.isub, 1) := bz_c100 (by decide +kernel)
theorem d_CO_codeStatement_282 : decode b_CO_codeStatement 282 = .ok (.aload_n 2, 1) := bz_c44 (by decide +kernel)
theorem d_CO_codeStatement_283 : decode b_CO_codeStatement 283 = .ok (.getstatic 276, 3) := bz_c178 (by decide +kernel)
theorem d_CO_codeStatement_286 : decode b_CO_codeStatement 286 = .ok (.if_acmp .ne 7, 3) := bz_c166 (by decide +kernel)
theorem d_CO_codeStatement_289 : decode b_CO_codeStatement 289 = .ok (.iconst 1, 1) := bz_c4 (by decide +kernel)
theorem d_CO_codeStatement_290 : decode b_CO_codeStatement 290 = .ok (.goto 4, 3) := bz_c167 (by decide +kernel)
theorem d_CO_codeStatement_293 : decode b_CO_codeStatement 293 = .ok (.iconst 0, 1) := bz_c3 (by decide +kernel)
theorem d_CO_codeStatement_294 : decode b_CO_codeStatement 294 = .ok (.iadd, 1) := bz_c96 (by decide +kernel)
theorem d_CO_codeStatement_295 : decode b_CO_codeStatement 295 = .ok (.invokevirtual 218, 3) := bz_c182 (by decide +kernel)
theorem d_CO_codeStatement_298 : decode b_CO_codeStatement 298 = .ok (.return_, 1) := bz_c177 (by decide +kernel)
theorem kM_CO_136 : Cond.methodLink R_CO 136 y_CO_addLocal ∈ lw_g := in_c5 139 rfl rfl
theorem kV_CO_addLocal : Cond.instanceMethod y_CO_addLocal ∈ lw_g := in_c5 141 rfl rfl
theorem kS_CO_addLocal : Cond.selects R_CO y_CO_addLocal y_CO_addLocal ∈ lw_g := in_s 34 (by decide +kernel) rfl
theorem kM_CO_273 : Cond.methodLink R_CO 273 y_CO_codeAssign ∈ lw_g := in_c5 231 rfl rfl
theorem kV_CO_codeAssign : Cond.instanceMethod y_CO_codeAssign ∈ lw_g := in_c5 233 rfl rfl
theorem kS_CO_codeAssign : Cond.selects R_CO y_CO_codeAssign y_CO_codeAssign ∈ lw_g := in_s 46 (by decide +kernel) rfl
theorem kF_CO_124 : Cond.fieldLink R_CO 124 "WaferForge$Coder" "gives" "I" ∈ lw_g := in_c2 186 rfl rfl
theorem kF_CO_276 : Cond.fieldLink R_CO 276 "WaferForge$Sign" "BREAK" "LWaferForge$Sign;" ∈ lw_g := in_c5 235 rfl rfl
abbrev at_CO_codeStatement (dC : Nat → ClassId) (dI : Nat → Nat → Nat) (sa : Nat → Nat) (h0 pr kn lt pe to bo cs se gl fu pa pf sf pk pg pp pz pv pr_scanner_r pr_waiting_r pr_waitingPlaces_r bob tr kns knz knt knv tx gls glz glt glv : Nat) (clt cpe cbob ckns cknz cknt cknv ctx cpk cpg cpp cpz cpv cgls cglz cglt : ClassId) (h0_gives : Int32) (h0_depth : Int32) (h0_loopDepth : Int32) (pr_stepCount : Int32) (pr_open : Int32) (pr_twoSides : Int32) (pr_waitingCount : Int32) (gpe : Nat → Int32) (tr_length : Int32) (gtx : Nat → Int32) (gpk : Nat → Int32) (gpg : Nat → Option Nat) (gpp : Nat → Int32) (gpz : Nat → Int32) (gpv : Nat → Int64) (gl_length : Int32) (ggls : Nat → Int32) (gglz : Nat → Int32) (gglt : Nat → Int32) (A : Nat → Prop) (u : (Nat → Int32) × (Nat → Int32) × (Nat → Int32) × (Nat → Int64) × (Nat → Int32) × (Nat → Int32) × Int32 × Int32 × Int32 × Int32 × Int32 × Int32) (t : State) : Prop := match u with | (gbob, gkns, gknt, gknv, gknz, wlt, bo_length, h0_localCount, h0_pendingCount, kn_length, pr_place, pr_reason) => va_P (dC, dI) cls (wz_195 h0 pr kn lt h0_localCount pe h0_pendingCount h0_gives h0_depth h0_loopDepth to bo cs se pr gl fu pa pf sf pk pg pp pz pv pr_reason pr_place pr_scanner_r pr_stepCount pr_open pr_twoSides pr_waiting_r pr_waitingPlaces_r pr_waitingCount lt clt wlt pe cpe gpe bo bob bo_length bob cbob gbob kn tr kns knz knt knv kn_length kns ckns gkns knz cknz gknz knt cknt gknt knv cknv gknv tr tx tr_length tx ctx gtx pk cpk gpk pg cpg (fun j => (gpg j).map (sg sa)) pp cpp gpp pz cpz gpz pv cpv gpv gl tr gls glz glt glv gl_length gls cgls ggls glz cglz gglz glt cglt gglt) t.heap ∧ va_K (dC, dI) cls [(clt, .int), (cpe, .int), (cbob, .byte), (ckns, .int), (cknz, .int), (cknt, .int), (cknv, .long), (ctx, .byte), (cpk, .int), (cpg, .object "WaferForge$Sign"), (cpp, .int), (cpz, .int), (cpv, .long), (cgls, .int), (cglz, .int), (cglt, .int)] t ∧ va_D A (wz_195 h0 pr kn lt h0_localCount pe h0_pendingCount h0_gives h0_depth h0_loopDepth to bo cs se pr gl fu pa pf sf pk pg pp pz pv pr_reason pr_place pr_scanner_r pr_stepCount pr_open pr_twoSides pr_waiting_r pr_waitingPlaces_r pr_waitingCount lt clt wlt pe cpe gpe bo bob bo_length bob cbob gbob kn tr kns knz knt knv kn_length kns ckns gkns knz cknz gknz knt cknt gknt knv cknv gknv tr tx tr_length tx ctx gtx pk cpk gpk pg cpg (fun j => (gpg j).map (sg sa)) pp cpp gpp pz cpz gpz pv cpv gpv gl tr gls glz glt glv gl_length gls cgls ggls glz cglz gglz glt cglt gglt)
set_option maxHeartbeats 4000000 in
set_option maxRecDepth 100000 in
theorem c_CO_codeStatement (l : Launch) (hlt : l.stackTraces = false) (dC : Nat → ClassId) (dI : Nat → Nat → Nat) (sz : Nat) (sa : Nat → Nat) (h0 pr kn lt pe to bo cs se gl fu pa pf sf pk pg pp pz pv pr_scanner_r pr_waiting_r pr_waitingPlaces_r bob tr kns knz knt knv tx gls glz glt glv : Nat) (clt cpe cbob ckns cknz cknt cknv ctx cpk cpg cpp cpz cpv cgls cglz cglt : ClassId) (h0_localCount : Int32) (h0_pendingCount : Int32) (h0_gives : Int32) (h0_depth : Int32) (h0_loopDepth : Int32) (pr_reason : Int32) (pr_place : Int32) (pr_stepCount : Int32) (pr_open : Int32) (pr_twoSides : Int32) (pr_waitingCount : Int32) (wlt : Nat → Int32) (gpe : Nat → Int32) (bo_length : Int32) (gbob : Nat → Int32) (kn_length : Int32) (gkns : Nat → Int32) (gknz : Nat → Int32) (gknt : Nat → Int32) (gknv : Nat → Int64) (tr_length : Int32) (gtx : Nat → Int32) (gpk : Nat → Int32) (gpg : Nat → Option Nat) (gpp : Nat → Int32) (gpz : Nat → Int32) (gpv : Nat → Int64) (gl_length : Int32) (ggls : Nat → Int32) (gglz : Nat → Int32) (gglt : Nat → Int32) (gS : List Nat) (gS2 : List Nat) (gC : Int) (gc1 : Int) (ka : Nat) (eV : Nat → Int) (eT : Nat → Int) (efc : Int)  (b_h0_localCount : 0 ≤ h0_localCount.toInt ∧ h0_localCount.toInt ≤ 50) (b_h0_pendingCount : 0 ≤ h0_pendingCount.toInt ∧ h0_pendingCount.toInt ≤ 680) (b_bo_length : 0 ≤ bo_length.toInt ∧ bo_length.toInt ≤ 8192) (b_kn_length : 0 ≤ kn_length.toInt ∧ kn_length.toInt ≤ 50) (b_tr_length : 0 ≤ tr_length.toInt ∧ tr_length.toInt ≤ 2000) (b_gl_length : 0 ≤ gl_length.toInt ∧ gl_length.toInt ≤ 20) (p0 : Int32)  (hi : 0 ≤ p0.toInt ∧ p0.toInt < 4100) (hkd : 8 ≤ (gpk p0.toNatClampNeg).toInt ∧ (gpk p0.toNatClampNeg).toInt ≤ 12) (hka : ka < 55) (hI : bx (cI h0_localCount.toInt eV eT efc gl_length.toInt h0_gives.toInt gS (pl gpe h0_pendingCount.toNatClampNeg) (bl gbob bo_length.toNatClampNeg) kn_length.toInt h0_depth.toInt h0_loopDepth.toInt gC)) (hs : bx (sS (gpk p0.toNatClampNeg) ka (gpz p0.toNatClampNeg) (gpv p0.toNatClampNeg) gc1 gS gS2)) (hsg : gpg p0.toNatClampNeg = some ka) (hlm : bx (lm gS ∧ lm gS2)) (hcc : gC + gc1 ≤ 40000) (hkq : bx (kq kn_length.toInt gknt gknv h0_localCount.toInt)) (hgq : bx (gq gl_length.toInt gglt)) (hlq : bx (gq h0_localCount.toInt wlt)) (hkl : kn_length.toInt ≤ h0_localCount.toInt) : tz_Met l y_CO_codeStatement w_CO_codeStatement ({ frames := 8, cells := 1, slots := 6, locals := 137 }) (va_Pc [.ref h0, .int p0] (fun U => U.heap.size = sz ∧ va_P (dC, dI) cls (wz_195 h0 pr kn lt h0_localCount pe h0_pendingCount h0_gives h0_depth h0_loopDepth to bo cs se pr gl fu pa pf sf pk pg pp pz pv pr_reason pr_place pr_scanner_r pr_stepCount pr_open pr_twoSides pr_waiting_r pr_waitingPlaces_r pr_waitingCount lt clt wlt pe cpe gpe bo bob bo_length bob cbob gbob kn tr kns knz knt knv kn_length kns ckns gkns knz cknz gknz knt cknt gknt knv cknv gknv tr tx tr_length tx ctx gtx pk cpk gpk pg cpg (fun j => (gpg j).map (sg sa)) pp cpp gpp pz cpz gpz pv cpv gpv gl tr gls glz glt glv gl_length gls cgls ggls glz cglz gglz glt cglt gglt) U.heap ∧ va_K (dC, dI) cls [(clt, .int), (cpe, .int), (cbob, .byte), (ckns, .int), (cknz, .int), (cknt, .int), (cknv, .long), (ctx, .byte), (cpk, .int), (cpg, .object "WaferForge$Sign"), (cpp, .int), (cpz, .int), (cpv, .long), (cgls, .int), (cglz, .int), (cglt, .int)] U ∧ va_D (fun _ => True) (wz_195 h0 pr kn lt h0_localCount pe h0_pendingCount h0_gives h0_depth h0_loopDepth to bo cs se pr gl fu pa pf sf pk pg pp pz pv pr_reason pr_place pr_scanner_r pr_stepCount pr_open pr_twoSides pr_waiting_r pr_waitingPlaces_r pr_waitingCount lt clt wlt pe cpe gpe bo bob bo_length bob cbob gbob kn tr kns knz knt knv kn_length kns ckns gkns knz cknz gknz knt cknt gknt knv cknv gknv tr tx tr_length tx ctx gtx pk cpk gpk pg cpg (fun j => (gpg j).map (sg sa)) pp cpp gpp pz cpz gpz pv cpv gpv gl tr gls glz glt glv gl_length gls cgls ggls glz cglz gglz glt cglt gglt) ∧ sw sa (va_A (wz_195 h0 pr kn lt h0_localCount pe h0_pendingCount h0_gives h0_depth h0_loopDepth to bo cs se pr gl fu pa pf sf pk pg pp pz pv pr_reason pr_place pr_scanner_r pr_stepCount pr_open pr_twoSides pr_waiting_r pr_waitingPlaces_r pr_waitingCount lt clt wlt pe cpe gpe bo bob bo_length bob cbob gbob kn tr kns knz knt knv kn_length kns ckns gkns knz cknz gknz knt cknt gknt knv cknv gknv tr tx tr_length tx ctx gtx pk cpk gpk pg cpg (fun j => (gpg j).map (sg sa)) pp cpp gpp pz cpz gpz pv cpv gpv gl tr gls glz glt glv gl_length gls cgls ggls glz cglz gglz glt cglt gglt) sz) U U.heap)) (tq_Q (tq_v (fun (u : (Nat → Int32) × (Nat → Int32) × (Nat → Int32) × (Nat → Int64) × (Nat → Int32) × (Nat → Int32) × Int32 × Int32 × Int32 × Int32 × Int32 × Int32) => match u with | (gbob2, gkns2, gknt2, gknv2, gknz2, wlt2, bo_length2, h0_localCount2, h0_pendingCount2, kn_length2, pr_place2, pr_reason2) => (0 ≤ bo_length2.toInt ∧ bo_length2.toInt ≤ 8192) ∧ (0 ≤ h0_localCount2.toInt ∧ h0_localCount2.toInt ≤ 50) ∧ (0 ≤ h0_pendingCount2.toInt ∧ h0_pendingCount2.toInt ≤ 680) ∧ (0 ≤ kn_length2.toInt ∧ kn_length2.toInt ≤ 50) ∧ (cI h0_localCount2.toInt eV eT efc gl_length.toInt h0_gives.toInt gS2 (pl gpe h0_pendingCount2.toNatClampNeg) (bl gbob2 bo_length2.toNatClampNeg) kn_length2.toInt h0_depth.toInt h0_loopDepth.toInt (gC + gc1) ∧ kq kn_length2.toInt gknt2 gknv2 h0_localCount2.toInt ∧ kn_length2.toInt ≤ h0_localCount2.toInt ∧ gq h0_localCount2.toInt wlt2 ∧ h0_localCount.toInt ≤ h0_localCount2.toInt)) "java/lang/UnsupportedOperationException" (fun (u : (Nat → Int32) × (Nat → Int32) × (Nat → Int32) × (Nat → Int64) × (Nat → Int32) × (Nat → Int32) × Int32 × Int32 × Int32 × Int32 × Int32 × Int32) => match u with | (gbob2, gkns2, gknt2, gknv2, gknz2, wlt2, bo_length2, h0_localCount2, h0_pendingCount2, kn_length2, pr_place2, pr_reason2) => (0 ≤ bo_length2.toInt ∧ bo_length2.toInt ≤ 8192) ∧ (0 ≤ h0_localCount2.toInt ∧ h0_localCount2.toInt ≤ 50) ∧ (0 ≤ h0_pendingCount2.toInt ∧ h0_pendingCount2.toInt ≤ 680) ∧ (0 ≤ kn_length2.toInt ∧ kn_length2.toInt ≤ 50))) (at_CO_codeStatement dC dI sa h0 pr kn lt pe to bo cs se gl fu pa pf sf pk pg pp pz pv pr_scanner_r pr_waiting_r pr_waitingPlaces_r bob tr kns knz knt knv tx gls glz glt glv clt cpe cbob ckns cknz cknt cknv ctx cpk cpg cpp cpz cpv cgls cglz cglt h0_gives h0_depth h0_loopDepth pr_stepCount pr_open pr_twoSides pr_waitingCount gpe tr_length gtx gpk gpg gpp gpz gpv gl_length ggls gglz gglt (va_A (wz_195 h0 pr kn lt h0_localCount pe h0_pendingCount h0_gives h0_depth h0_loopDepth to bo cs se pr gl fu pa pf sf pk pg pp pz pv pr_reason pr_place pr_scanner_r pr_stepCount pr_open pr_twoSides pr_waiting_r pr_waitingPlaces_r pr_waitingCount lt clt wlt pe cpe gpe bo bob bo_length bob cbob gbob kn tr kns knz knt knv kn_length kns ckns gkns knz cknz gknz knt cknt gknt knv cknv gknv tr tx tr_length tx ctx gtx pk cpk gpk pg cpg (fun j => (gpg j).map (sg sa)) pp cpp gpp pz cpz gpz pv cpv gpv gl tr gls glz glt glv gl_length gls cgls ggls glz cglz gglz glt cglt gglt) sz)) (va_A (wz_195 h0 pr kn lt h0_localCount pe h0_pendingCount h0_gives h0_depth h0_loopDepth to bo cs se pr gl fu pa pf sf pk pg pp pz pv pr_reason pr_place pr_scanner_r pr_stepCount pr_open pr_twoSides pr_waiting_r pr_waitingPlaces_r pr_waitingCount lt clt wlt pe cpe gpe bo bob bo_length bob cbob gbob kn tr kns knz knt knv kn_length kns ckns gkns knz cknz gknz knt cknt gknt knv cknv gknv tr tx tr_length tx ctx gtx pk cpk gpk pg cpg (fun j => (gpg j).map (sg sa)) pp cpp gpp pz cpz gpz pv cpv gpv gl tr gls glz glt glv gl_length gls cgls ggls glz cglz gglz glt cglt gglt) sz)) (tz_k 0 0 1 6) (va_A (wz_195 h0 pr kn lt h0_localCount pe h0_pendingCount h0_gives h0_depth h0_loopDepth to bo cs se pr gl fu pa pf sf pk pg pp pz pv pr_reason pr_place pr_scanner_r pr_stepCount pr_open pr_twoSides pr_waiting_r pr_waitingPlaces_r pr_waitingCount lt clt wlt pe cpe gpe bo bob bo_length bob cbob gbob kn tr kns knz knt knv kn_length kns ckns gkns knz cknz gknz knt cknt gknt knv cknv gknv tr tx tr_length tx ctx gtx pk cpk gpk pg cpg (fun j => (gpg j).map (sg sa)) pp cpp gpp pz cpz gpz pv cpv gpv gl tr gls glz glt glv gl_length gls cgls ggls glz cglz gglz glt cglt gglt) sz) := by
  refine tz_ofW (cc := b_CO_codeStatement) (maxL := 6) (ret := none) (by decide) rfl ?_
  intro p e s m args below meth c s₁ B hml hno hv
  obtain ⟨rfl, hsz, hP, hK, hD0, hSW⟩ := hv
  have hx := B.exec
  have hb := B.bytes
  have hr := B.returns
  have hts0 := atoms_spec (ws := w_CO_codeStatement) B.pre
  have hts : ∀ w ∈ lw_g, w.before _ s = true := fun w h => hts0 w (List.mem_cons_of_mem _ h)
  have hown : s.vm.findClass R_CO = some m.cls := findClass_of_methodNamed B.named
  have hlocks := B.notSynchronized
  clear hts0
  subst hsz
  have hD := hD0.self (sz := s.heap.size)
  generalize hAe : va_A (wz_195 h0 pr kn lt h0_localCount pe h0_pendingCount h0_gives h0_depth h0_loopDepth to bo cs se pr gl fu pa pf sf pk pg pp pz pv pr_reason pr_place pr_scanner_r pr_stepCount pr_open pr_twoSides pr_waiting_r pr_waitingPlaces_r pr_waitingCount lt clt wlt pe cpe gpe bo bob bo_length bob cbob gbob kn tr kns knz knt knv kn_length kns ckns gkns knz cknz gknz knt cknt gknt knv cknv gknv tr tx tr_length tx ctx gtx pk cpk gpk pg cpg (fun j => (gpg j).map (sg sa)) pp cpp gpp pz cpz gpz pv cpv gpv gl tr gls glz glt glv gl_length gls cgls ggls glz cglz gglz glt cglt gglt) s.heap.size = A at hD hSW ⊢
  have hA : ∀ q : Nat, s.heap.size ≤ q → A q := fun q h => by rw [← hAe]; exact Or.inr h
  clear hAe
  have hP : va_P (dC, dI) cls (wz_195 h0 pr kn lt h0_localCount pe h0_pendingCount h0_gives h0_depth h0_loopDepth to bo cs se pr gl fu pa pf sf pk pg pp pz pv pr_reason pr_place pr_scanner_r pr_stepCount pr_open pr_twoSides pr_waiting_r pr_waitingPlaces_r pr_waitingCount lt clt wlt pe cpe gpe bo bob bo_length bob cbob gbob kn tr kns knz knt knv kn_length kns ckns gkns knz cknz gknz knt cknt gknt knv cknv gknv tr tx tr_length tx ctx gtx pk cpk gpk pg cpg (fun j => (gpg j).map (sg sa)) pp cpp gpp pz cpz gpz pv cpv gpv gl tr gls glz glt glv gl_length gls cgls ggls glz cglz gglz glt cglt gglt) s.heap := hP
  have hl := lv_entry ([.ref h0, .int p0]) (n := 6) (Nat.le_of_ble_eq_true rfl)
  rw [lg_entry_eq]
  generalize (lg_sl ([.ref h0, .int p0]) ++ List.replicate (6 - (lg_sl ([.ref h0, .int p0])).length) Slot.unset).toArray = ls at hl ⊢
  have hl : lv_has ls 6 [(0, .ref h0), (1, .int p0)] := hl
  have k0 : (0 : Int32).toInt = 0 := by decide
  refine w_gen (A := A) hP (fun H locs hP hS => ?_)
  have k1 : (1 : Int32).toInt = 1 := by decide
  have k3 : (3 : Int32).toInt = 3 := by decide
  have k6 : (6 : Int32).toInt = 6 := by decide
  have k12 : (12 : Int32).toInt = 12 := by decide
  have k15 : (15 : Int32).toInt = 15 := by decide
  have k26 : (26 : Int32).toInt = 26 := by decide
  have k33 : (33 : Int32).toInt = 33 := by decide
  have k64 : (64 : Int32).toInt = 64 := by decide
  have lo_p0 := i32_lo p0
  have hi_p0 := i32_hi p0
  have jb := cJ_b gS hI.out.1
  rw [pl_len, bl_len] at jb
  have j5 := hI.out.2.1.1
  rw [bl_len] at j5
  have zc := i32_clamp (x := h0_pendingCount) (by (first | (apply Int.le_antisymm <;> omega) | omega))
  have zb := i32_clamp (x := bo_length) (by (first | (apply Int.le_antisymm <;> omega) | omega))
  have hl1 := hlm.out.1
  have hl2 := hlm.out.2
  unfold lm at hl1 hl2
  have hc10 := sS_cost hs.out
  refine lv_aload_n hx hb d_CO_codeStatement_0 rfl (lv_at hl 0 rfl) ?_
  refine va_get (D := (dC, dI)) (ci := 2) (v := .ref pr) (C := R_CO) (T := F_CO) (N := 13) hx hb hts i_CO hown hK hP 0 rfl rfl 0 (by decide) (hts _ kF_CO_36) (fun _ h9 => h9) rfl d_CO_codeStatement_1 ?_
  refine va_get (D := (dC, dI)) (ci := 6) (v := .ref pg) (C := R_PR) (T := F_PR) (N := 19) hx hb hts i_PR hown hK hP 1 rfl rfl 6 (by decide) (hts _ kF_CO_166) (fun _ h9 => h9) rfl d_CO_codeStatement_4 ?_
  refine lv_iload_n hx hb d_CO_codeStatement_7 rfl (lv_at hl 1 rfl) ?_
  have g8 : vp_in p0 4100 := vp_in_iff.mpr ⟨by (first | (apply Int.le_antisymm <;> omega) | omega), by (first | (apply Int.le_antisymm <;> omega) | omega)⟩
  obtain ⟨k1, hk1, ek1⟩ : ∃ z : Nat, z < 55 ∧ gpg p0.toNatClampNeg = some z := ⟨ka, hka, hsg⟩
  refine va_aldq hx hb hK hP 14 9 rfl rfl g8 d_CO_codeStatement_8 ?_
  refine w_top (v2 := .ref (sg sa k1)) (by show va_rf ((gpg p0.toNatClampNeg).map (sg sa)) = _; rw [ek1]; rfl) ?_
  have b9 : ka < 55 := by (first | (apply Int.le_antisymm <;> omega) | omega)
  have k9 : ka = k1 := Option.some.inj (hsg.symm.trans ek1)
  subst k9
  refine lv_astore_n (lv' := [(2, .ref (sg sa ka)), (0, .ref h0), (1, .int p0)]) hx hb d_CO_codeStatement_9 rfl hl (by decide) rfl (fun ls hl => ?_)
  refine lv_aload_n hx hb d_CO_codeStatement_10 rfl (lv_at hl 1 rfl) ?_
  refine va_get (D := (dC, dI)) (ci := 2) (v := .ref pr) (C := R_CO) (T := F_CO) (N := 13) hx hb hts i_CO hown hK hP 0 rfl rfl 0 (by decide) (hts _ kF_CO_36) (fun _ h9 => h9) rfl d_CO_codeStatement_11 ?_
  refine va_get (D := (dC, dI)) (ci := 6) (v := .ref pp) (C := R_PR) (T := F_PR) (N := 19) hx hb hts i_PR hown hK hP 1 rfl rfl 7 (by decide) (hts _ kF_CO_193) (fun _ h9 => h9) rfl d_CO_codeStatement_14 ?_
  refine lv_iload_n hx hb d_CO_codeStatement_17 rfl (lv_at hl 2 rfl) ?_
  have g18 : vp_in p0 4100 := vp_in_iff.mpr ⟨by (first | (apply Int.le_antisymm <;> omega) | omega), by (first | (apply Int.le_antisymm <;> omega) | omega)⟩
  refine va_iald hx hb hK hP 15 10 rfl rfl g18 d_CO_codeStatement_18 ?_
  refine lv_topi (fun x2 ex2 => ?_)
  refine lv_istore_n (lv' := [(3, .int x2), (2, .ref (sg sa ka)), (0, .ref h0), (1, .int p0)]) hx hb d_CO_codeStatement_19 rfl hl (by decide) rfl (fun ls hl => ?_)
  refine lv_aload_n hx hb d_CO_codeStatement_20 rfl (lv_at hl 2 rfl) ?_
  refine va_get (D := (dC, dI)) (ci := 2) (v := .ref pr) (C := R_CO) (T := F_CO) (N := 13) hx hb hts i_CO hown hK hP 0 rfl rfl 0 (by decide) (hts _ kF_CO_36) (fun _ h9 => h9) rfl d_CO_codeStatement_21 ?_
  refine va_get (D := (dC, dI)) (ci := 6) (v := .ref pk) (C := R_PR) (T := F_PR) (N := 19) hx hb hts i_PR hown hK hP 1 rfl rfl 5 (by decide) (hts _ kF_CO_143) (fun _ h9 => h9) rfl d_CO_codeStatement_24 ?_
  refine lv_iload_n hx hb d_CO_codeStatement_27 rfl (lv_at hl 3 rfl) ?_
  have g28 : vp_in p0 4100 := vp_in_iff.mpr ⟨by (first | (apply Int.le_antisymm <;> omega) | omega), by (first | (apply Int.le_antisymm <;> omega) | omega)⟩
  refine va_iald hx hb hK hP 13 8 rfl rfl g28 d_CO_codeStatement_28 ?_
  refine lv_topi (fun x3 ex3 => ?_)
  have tx3 := hkd
  rw [← ex3] at tx3
  by_cases g29_60 : x3.toInt = 8
  · have ho29 : tab_off 214 8 11 #[31, 104, 112, 133] x3.toInt = 31 := by rw [g29_60]; rfl
    refine lv_tab (tgt := 60) hx hb d_CO_codeStatement_29 (by decide) ho29 (by decide) ?_
    clear ho29
    have h9 : (gpk p0.toNatClampNeg).toInt = 8 := by rw [← ex3]; (first | (apply Int.le_antisymm <;> omega) | omega)
    have s9 := sI_8 hs.out h9
    obtain ⟨s81, s82, s83, ec, eS⟩ := s9
    have q1 := hI.out.1
    rw [eS] at q1
    have q1 := cJ_pos q1 (by decide)
    refine lv_aload_n hx hb d_CO_codeStatement_60 rfl (lv_at hl 2 rfl) ?_
    have hPc := hP.sb (wq := (wz_149 h0 pr kn lt h0_localCount pe h0_pendingCount h0_gives h0_depth h0_loopDepth to bo cs se pe cpe gpe)) [0, 3] rfl
    have hDc := hD.sb (wq := (wz_149 h0 pr kn lt h0_localCount pe h0_pendingCount h0_gives h0_depth h0_loopDepth to bo cs se pe cpe gpe)) [0, 3] (by decide) rfl
    have hKc := hK.sb (tyq := [(cpe, .int)]) [1] rfl
    have hFc := va_free (wc := (wz_149 h0 pr kn lt h0_localCount pe h0_pendingCount h0_gives h0_depth h0_loopDepth to bo cs se pe cpe gpe)) hD hS hA [0, 3] rfl
    refine va_calli (va_runV (As := []) (rest := []) ⟨hx, hb, hml, hown, hts⟩ (c_CO_pop l dC dI H.size h0 pr kn lt pe to bo cs se cpe h0_localCount h0_pendingCount h0_gives h0_depth h0_loopDepth gpe (b_h0_pendingCount) (by (first | (apply Int.le_antisymm <;> omega) | omega))) (cwV 0 hts (gV kM_CO_224 kV_CO_pop kS_CO_pop kI_CO kC_CO_pop) rfl rfl rfl (by decide +kernel) ⟨Nat.le_of_ble_eq_true rfl, Nat.le_of_ble_eq_true rfl⟩) ⟨fun a U g mk z => by obtain ⟨z0, z1, zP, zK, zD⟩ := z; exact ⟨z0, z1, zP, va_K.moved (u := U) (U := U.calling g mk a) (Vm.Alike.refl U.vm) zK, zD⟩, va_recv hKc hPc (ci := 2) (q0 := 0) rfl rfl, fun U hU hW => ⟨rfl, by rw [hU], va_P.he hU.symm hPc, va_K.moved hW.alike hKc, hDc.weaken (fun _ _ _ _ => trivial)⟩⟩ rfl rfl hl.1 rfl (lv_room (Nat.le_of_ble_eq_true rfl)) d_CO_codeStatement_61 ⟨(Nat.zero_le _), (Nat.zero_le _)⟩) hS (fun q _ h => hFc q h) hFc (fun r4 u t H1 locs ht hvm hw hB hz1 hk1 hS => ?_)
    obtain ⟨n5, rfl⟩ : ∃ z, z = u := ⟨_, rfl⟩
    try dsimp only at hw
    obtain ⟨bn5, xr4⟩ := hw
    try clear hw
    obtain ⟨hP1, hK1, hD1⟩ := hB
    replace hP1 := va_P.he ht hP1
    obtain ⟨hP, hD⟩ := va_join (wr := (wz_196 pr gl fu pa pf sf pk pg pp pz pv pr_reason pr_place pr_scanner_r pr_stepCount pr_open pr_twoSides pr_waiting_r pr_waitingPlaces_r pr_waitingCount lt clt wlt bo bob bo_length bob cbob gbob kn tr kns knz knt knv kn_length kns ckns gkns knz cknz gknz knt cknt gknt knv cknv gknv tr tx tr_length tx ctx gtx pk cpk gpk pg cpg (fun j => (gpg j).map (sg sa)) pp cpp gpp pz cpz gpz pv cpv gpv gl tr gls glz glt glv gl_length gls cgls ggls glz cglz gglz glt cglt gglt)) (w1 := (wz_149 h0 pr kn lt h0_localCount pe n5 h0_gives h0_depth h0_loopDepth to bo cs se pe cpe gpe)) hP hD [0, 3] [1, 2, 4, 5, 6, 7, 8, 9, 10, 11, 12, 13, 14, 15, 16, 17, 18, 19, 20, 21] rfl rfl (by decide) (by decide) hk1 hFc hP1 hD1
    clear hPc hDc hKc hFc hz1 hk1 hP1 hK1 hD1
    rename Heap => H
    have hP : va_P (dC, dI) cls (wz_197 pr gl fu pa pf sf pk pg pp pz pv pr_reason pr_place pr_scanner_r pr_stepCount pr_open pr_twoSides pr_waiting_r pr_waitingPlaces_r pr_waitingCount lt clt wlt bo bob bo_length bob cbob gbob kn tr kns knz knt knv kn_length kns ckns gkns knz cknz gknz knt cknt gknt knv cknv gknv tr tx tr_length tx ctx gtx pk cpk gpk pg cpg (fun j => (gpg j).map (sg sa)) pp cpp gpp pz cpz gpz pv cpv gpv gl tr gls glz glt glv gl_length gls cgls ggls glz cglz gglz glt cglt gglt h0 pr kn lt h0_localCount pe n5 h0_gives h0_depth h0_loopDepth to bo cs se pe cpe gpe) H := hP
    have hD : va_D A (wz_197 pr gl fu pa pf sf pk pg pp pz pv pr_reason pr_place pr_scanner_r pr_stepCount pr_open pr_twoSides pr_waiting_r pr_waitingPlaces_r pr_waitingCount lt clt wlt bo bob bo_length bob cbob gbob kn tr kns knz knt knv kn_length kns ckns gkns knz cknz gknz knt cknt gknt knv cknv gknv tr tx tr_length tx ctx gtx pk cpk gpk pg cpg (fun j => (gpg j).map (sg sa)) pp cpp gpp pz cpz gpz pv cpv gpv gl tr gls glz glt glv gl_length gls cgls ggls glz cglz gglz glt cglt gglt h0 pr kn lt h0_localCount pe n5 h0_gives h0_depth h0_loopDepth to bo cs se pe cpe gpe) := hD
    refine lv_aload_n hx hb d_CO_codeStatement_64 rfl (lv_at hl 1 rfl) ?_
    have hPc := hP.sb (wq := []) [] rfl
    have hDc := hD.sb (wq := []) [] (by decide) rfl
    have hKc := hK.sb (tyq := []) [] rfl
    have hFc := va_free (wc := []) hD hS hA [] rfl
    refine va_calli (va_runV (As := []) (rest := [.int r4]) ⟨hx, hb, hml, hown, hts⟩ (c_SG_type l dC dI H.size sa ka b9 ) (cwV 0 hts (gV kM_CO_170 kV_SG_type kS_SG_type kI_SG kC_SG_type) rfl rfl rfl (by decide +kernel) ⟨Nat.le_of_ble_eq_true rfl, Nat.le_of_ble_eq_true rfl⟩) ⟨fun a U g mk z => by obtain ⟨z0, z1, zP, zK, zD, zS⟩ := z; exact ⟨z0, z1, zP, va_K.moved (u := U) (U := U.calling g mk a) (Vm.Alike.refl U.vm) zK, zD, sw.same (u := U) (U := U.calling g mk a) rfl zS⟩, va_recvE (i := ka) hSW.2.2.2.1 b9 hS, fun U hU hW => ⟨rfl, by rw [hU], va_P.he hU.symm hPc, va_K.moved hW.alike hKc, hDc.weaken (fun _ _ _ _ => trivial), hSW.call hS hFc hW hU⟩⟩ rfl rfl hl.1 rfl (lv_room (Nat.le_of_ble_eq_true rfl)) d_CO_codeStatement_65 ⟨(Nat.zero_le _), (Nat.zero_le _)⟩) hS (fun q _ h => hFc q h) hFc (fun r6 u t H1 locs ht hvm hw hB hz1 hk1 hS => ?_)
    try dsimp only at hw
    have xr6 := hw
    try clear hw
    obtain ⟨hP1, hK1, hD1⟩ := hB
    replace hP1 := va_P.he ht hP1
    obtain ⟨hP, hD⟩ := va_join (wr := (wz_197 pr gl fu pa pf sf pk pg pp pz pv pr_reason pr_place pr_scanner_r pr_stepCount pr_open pr_twoSides pr_waiting_r pr_waitingPlaces_r pr_waitingCount lt clt wlt bo bob bo_length bob cbob gbob kn tr kns knz knt knv kn_length kns ckns gkns knz cknz gknz knt cknt gknt knv cknv gknv tr tx tr_length tx ctx gtx pk cpk gpk pg cpg (fun j => (gpg j).map (sg sa)) pp cpp gpp pz cpz gpz pv cpv gpv gl tr gls glz glt glv gl_length gls cgls ggls glz cglz gglz glt cglt gglt h0 pr kn lt h0_localCount pe n5 h0_gives h0_depth h0_loopDepth to bo cs se pe cpe gpe)) (w1 := []) hP hD [] [0, 1, 2, 3, 4, 5, 6, 7, 8, 9, 10, 11, 12, 13, 14, 15, 16, 17, 18, 19, 20, 21] rfl rfl (by decide) (by decide) hk1 hFc hP1 hD1
    clear hPc hDc hKc hFc hz1 hk1 hP1 hK1 hD1
    rename Heap => H
    have hP : va_P (dC, dI) cls (wz_197 pr gl fu pa pf sf pk pg pp pz pv pr_reason pr_place pr_scanner_r pr_stepCount pr_open pr_twoSides pr_waiting_r pr_waitingPlaces_r pr_waitingCount lt clt wlt bo bob bo_length bob cbob gbob kn tr kns knz knt knv kn_length kns ckns gkns knz cknz gknz knt cknt gknt knv cknv gknv tr tx tr_length tx ctx gtx pk cpk gpk pg cpg (fun j => (gpg j).map (sg sa)) pp cpp gpp pz cpz gpz pv cpv gpv gl tr gls glz glt glv gl_length gls cgls ggls glz cglz gglz glt cglt gglt h0 pr kn lt h0_localCount pe n5 h0_gives h0_depth h0_loopDepth to bo cs se pe cpe gpe) H := hP
    have hD : va_D A (wz_197 pr gl fu pa pf sf pk pg pp pz pv pr_reason pr_place pr_scanner_r pr_stepCount pr_open pr_twoSides pr_waiting_r pr_waitingPlaces_r pr_waitingCount lt clt wlt bo bob bo_length bob cbob gbob kn tr kns knz knt knv kn_length kns ckns gkns knz cknz gknz knt cknt gknt knv cknv gknv tr tx tr_length tx ctx gtx pk cpk gpk pg cpg (fun j => (gpg j).map (sg sa)) pp cpp gpp pz cpz gpz pv cpv gpv gl tr gls glz glt glv gl_length gls cgls ggls glz cglz gglz glt cglt gglt h0 pr kn lt h0_localCount pe n5 h0_gives h0_depth h0_loopDepth to bo cs se pe cpe gpe) := hD
    refine lv_icmp_eq (tgt := 80) hx hb d_CO_codeStatement_68 (by decide) (fun c68 => ?_) (fun c68 => ?_)
    · have q68 := eqI c68
      refine lv_aload_n hx hb d_CO_codeStatement_80 rfl (lv_at hl 2 rfl) ?_
      refine lv_aload_n hx hb d_CO_codeStatement_81 rfl (lv_at hl 2 rfl) ?_
      refine va_get (D := (dC, dI)) (ci := 2) (v := .ref pr) (C := R_CO) (T := F_CO) (N := 13) hx hb hts i_CO hown hK hP 20 rfl rfl 0 (by decide) (hts _ kF_CO_36) (fun _ h9 => h9) rfl d_CO_codeStatement_82 ?_
      refine va_get (D := (dC, dI)) (ci := 6) (v := .ref pv) (C := R_PR) (T := F_PR) (N := 19) hx hb hts i_PR hown hK hP 0 rfl rfl 9 (by decide) (hts _ kF_CO_175) (fun _ h9 => h9) rfl d_CO_codeStatement_85 ?_
      refine lv_iload_n hx hb d_CO_codeStatement_88 rfl (lv_at hl 3 rfl) ?_
      have g89 : vp_in p0 4100 := vp_in_iff.mpr ⟨by (first | (apply Int.le_antisymm <;> omega) | omega), by (first | (apply Int.le_antisymm <;> omega) | omega)⟩
      refine va_lald hx hb hK hP 15 12 rfl rfl g89 d_CO_codeStatement_89 ?_
      refine lv_topl (fun x7 ex7 => ?_)
      have tx7 : 0 ≤ x7.toInt ∧ x7.toInt ≤ 2000 := by rw [ex7]; exact s83
      refine lv_l2i hx hb d_CO_codeStatement_90 rfl ?_
      refine lv_topi (fun x8 ex8 => ?_)
      have tx8 := l2i_t ex8 (by (first | (apply Int.le_antisymm <;> omega) | omega)) (by (first | (apply Int.le_antisymm <;> omega) | omega))
      refine lv_aload_n hx hb d_CO_codeStatement_91 rfl (lv_at hl 2 rfl) ?_
      refine va_get (D := (dC, dI)) (ci := 2) (v := .ref pr) (C := R_CO) (T := F_CO) (N := 13) hx hb hts i_CO hown hK hP 20 rfl rfl 0 (by decide) (hts _ kF_CO_36) (fun _ h9 => h9) rfl d_CO_codeStatement_92 ?_
      refine va_get (D := (dC, dI)) (ci := 6) (v := .ref pz) (C := R_PR) (T := F_PR) (N := 19) hx hb hts i_PR hown hK hP 0 rfl rfl 8 (by decide) (hts _ kF_CO_216) (fun _ h9 => h9) rfl d_CO_codeStatement_95 ?_
      refine lv_iload_n hx hb d_CO_codeStatement_98 rfl (lv_at hl 3 rfl) ?_
      have g99 : vp_in p0 4100 := vp_in_iff.mpr ⟨by (first | (apply Int.le_antisymm <;> omega) | omega), by (first | (apply Int.le_antisymm <;> omega) | omega)⟩
      refine va_iald hx hb hK hP 14 11 rfl rfl g99 d_CO_codeStatement_99 ?_
      refine lv_topi (fun x9 ex9 => ?_)
      have tx9 : 1 ≤ x9.toInt := by rw [ex9]; exact s82.1
      refine lv_aload_n hx hb d_CO_codeStatement_100 rfl (lv_at hl 1 rfl) ?_
      have hPc := hP.sb (wq := []) [] rfl
      have hDc := hD.sb (wq := []) [] (by decide) rfl
      have hKc := hK.sb (tyq := []) [] rfl
      have hFc := va_free (wc := []) hD hS hA [] rfl
      refine va_calli (va_runV (As := []) (rest := [.int x9, .int x8, .ref h0]) ⟨hx, hb, hml, hown, hts⟩ (c_SG_type l dC dI H.size sa ka b9 ) (cwV 0 hts (gV kM_CO_170 kV_SG_type kS_SG_type kI_SG kC_SG_type) rfl rfl rfl (by decide +kernel) ⟨Nat.le_of_ble_eq_true rfl, Nat.le_of_ble_eq_true rfl⟩) ⟨fun a U g mk z => by obtain ⟨z0, z1, zP, zK, zD, zS⟩ := z; exact ⟨z0, z1, zP, va_K.moved (u := U) (U := U.calling g mk a) (Vm.Alike.refl U.vm) zK, zD, sw.same (u := U) (U := U.calling g mk a) rfl zS⟩, va_recvE (i := ka) hSW.2.2.2.1 b9 hS, fun U hU hW => ⟨rfl, by rw [hU], va_P.he hU.symm hPc, va_K.moved hW.alike hKc, hDc.weaken (fun _ _ _ _ => trivial), hSW.call hS hFc hW hU⟩⟩ rfl rfl hl.1 rfl (lv_room (Nat.le_of_ble_eq_true rfl)) d_CO_codeStatement_101 ⟨(Nat.zero_le _), (Nat.zero_le _)⟩) hS (fun q _ h => hFc q h) hFc (fun r10 u t H1 locs ht hvm hw hB hz1 hk1 hS => ?_)
      try dsimp only at hw
      have xr10 := hw
      try clear hw
      obtain ⟨hP1, hK1, hD1⟩ := hB
      replace hP1 := va_P.he ht hP1
      obtain ⟨hP, hD⟩ := va_join (wr := (wz_197 pr gl fu pa pf sf pk pg pp pz pv pr_reason pr_place pr_scanner_r pr_stepCount pr_open pr_twoSides pr_waiting_r pr_waitingPlaces_r pr_waitingCount lt clt wlt bo bob bo_length bob cbob gbob kn tr kns knz knt knv kn_length kns ckns gkns knz cknz gknz knt cknt gknt knv cknv gknv tr tx tr_length tx ctx gtx pk cpk gpk pg cpg (fun j => (gpg j).map (sg sa)) pp cpp gpp pz cpz gpz pv cpv gpv gl tr gls glz glt glv gl_length gls cgls ggls glz cglz gglz glt cglt gglt h0 pr kn lt h0_localCount pe n5 h0_gives h0_depth h0_loopDepth to bo cs se pe cpe gpe)) (w1 := []) hP hD [] [0, 1, 2, 3, 4, 5, 6, 7, 8, 9, 10, 11, 12, 13, 14, 15, 16, 17, 18, 19, 20, 21] rfl rfl (by decide) (by decide) hk1 hFc hP1 hD1
      clear hPc hDc hKc hFc hz1 hk1 hP1 hK1 hD1
      rename Heap => H
      have hP : va_P (dC, dI) cls (wz_197 pr gl fu pa pf sf pk pg pp pz pv pr_reason pr_place pr_scanner_r pr_stepCount pr_open pr_twoSides pr_waiting_r pr_waitingPlaces_r pr_waitingCount lt clt wlt bo bob bo_length bob cbob gbob kn tr kns knz knt knv kn_length kns ckns gkns knz cknz gknz knt cknt gknt knv cknv gknv tr tx tr_length tx ctx gtx pk cpk gpk pg cpg (fun j => (gpg j).map (sg sa)) pp cpp gpp pz cpz gpz pv cpv gpv gl tr gls glz glt glv gl_length gls cgls ggls glz cglz gglz glt cglt gglt h0 pr kn lt h0_localCount pe n5 h0_gives h0_depth h0_loopDepth to bo cs se pe cpe gpe) H := hP
      have hD : va_D A (wz_197 pr gl fu pa pf sf pk pg pp pz pv pr_reason pr_place pr_scanner_r pr_stepCount pr_open pr_twoSides pr_waiting_r pr_waitingPlaces_r pr_waitingCount lt clt wlt bo bob bo_length bob cbob gbob kn tr kns knz knt knv kn_length kns ckns gkns knz cknz gknz knt cknt gknt knv cknv gknv tr tx tr_length tx ctx gtx pk cpk gpk pg cpg (fun j => (gpg j).map (sg sa)) pp cpp gpp pz cpz gpz pv cpv gpv gl tr gls glz glt glv gl_length gls cgls ggls glz cglz gglz glt cglt gglt h0 pr kn lt h0_localCount pe n5 h0_gives h0_depth h0_loopDepth to bo cs se pe cpe gpe) := hD
      refine lv_iload_n hx hb d_CO_codeStatement_104 rfl (lv_at hl 0 rfl) ?_
      have hPc := hP.sb (wq := (wz_150 h0 pr kn lt h0_localCount pe n5 h0_gives h0_depth h0_loopDepth to bo cs se pr gl fu pa pf sf pk pg pp pz pv pr_reason pr_place pr_scanner_r pr_stepCount pr_open pr_twoSides pr_waiting_r pr_waitingPlaces_r pr_waitingCount lt clt wlt kn tr kns knz knt knv kn_length kns ckns gkns knz cknz gknz knt cknt gknt knv cknv gknv tr tx tr_length tx ctx gtx)) [20, 0, 1, 4, 5, 6, 7, 8, 9, 10] rfl
      have hDc := hD.sb (wq := (wz_150 h0 pr kn lt h0_localCount pe n5 h0_gives h0_depth h0_loopDepth to bo cs se pr gl fu pa pf sf pk pg pp pz pv pr_reason pr_place pr_scanner_r pr_stepCount pr_open pr_twoSides pr_waiting_r pr_waitingPlaces_r pr_waitingCount lt clt wlt kn tr kns knz knt knv kn_length kns ckns gkns knz cknz gknz knt cknt gknt knv cknv gknv tr tx tr_length tx ctx gtx)) [20, 0, 1, 4, 5, 6, 7, 8, 9, 10] (by decide) rfl
      have hKc := hK.sb (tyq := [(clt, .int), (ckns, .int), (cknz, .int), (cknt, .int), (cknv, .long), (ctx, .byte)]) [0, 3, 4, 5, 6, 7] rfl
      have hFc := va_free (wc := (wz_150 h0 pr kn lt h0_localCount pe n5 h0_gives h0_depth h0_loopDepth to bo cs se pr gl fu pa pf sf pk pg pp pz pv pr_reason pr_place pr_scanner_r pr_stepCount pr_open pr_twoSides pr_waiting_r pr_waitingPlaces_r pr_waitingCount lt clt wlt kn tr kns knz knt knv kn_length kns ckns gkns knz cknz gknz knt cknt gknt knv cknv gknv tr tx tr_length tx ctx gtx)) hD hS hA [20, 0, 1, 4, 5, 6, 7, 8, 9, 10] rfl
      refine tq_callv (tz_runV (As := [.int x8, .int x9, .int r10, .int x2]) (rest := []) ⟨hx, hb, hml, hown, hts⟩ (c_CO_addLocal l hlt dC dI H.size sa h0 pr kn lt pe to bo cs se gl fu pa pf sf pk pg pp pz pv pr_scanner_r pr_waiting_r pr_waitingPlaces_r tr kns knz knt knv tx clt ckns cknz cknt cknv ctx h0_localCount n5 h0_gives h0_depth h0_loopDepth pr_reason pr_place pr_stepCount pr_open pr_twoSides pr_waitingCount wlt kn_length gkns gknz gknt gknv tr_length gtx (b_h0_localCount) (b_kn_length) (b_tr_length) x8 x9 r10 x2 (hkl) (by (first | (apply Int.le_antisymm <;> omega) | omega))) (cwV 4 hts (gV kM_CO_136 kV_CO_addLocal kS_CO_addLocal kI_CO kC_CO_addLocal) rfl rfl rfl (by decide +kernel) ⟨Nat.le_of_ble_eq_true rfl, Nat.le_of_ble_eq_true rfl⟩) ⟨fun a U g mk z => by obtain ⟨z0, z1, zP, zK, zD, zS⟩ := z; exact ⟨z0, z1, zP, va_K.moved (u := U) (U := U.calling g mk a) (Vm.Alike.refl U.vm) zK, zD, sw.same (u := U) (U := U.calling g mk a) rfl zS⟩, va_recv hKc hPc (ci := 2) (q0 := 0) rfl rfl, fun U hU hW => ⟨rfl, by rw [hU], va_P.he hU.symm hPc, va_K.moved hW.alike hKc, hDc.weaken (fun _ _ _ _ => trivial), hSW.call hS hFc hW hU⟩⟩ rfl rfl hl.1 rfl (lv_room (Nat.le_of_ble_eq_true rfl)) d_CO_codeStatement_105 ⟨Nat.le_of_ble_eq_true rfl, Nat.le_of_ble_eq_true rfl⟩) hS (fun q _ h => hFc q h) hFc (fun u t H1 locs ht hvm hw hB hz1 hk1 hS => ?_) (fun xx u t H1 locs ht hvm hw hXX hB hz1 hk1 hS => ?_)
      rotate_left
      · skip
        obtain ⟨n12, n13, n14, n15, n16, n17, n18, n19, n20⟩ := u
        try dsimp only at hw
        obtain ⟨bn17, bn18⟩ := hw
        obtain ⟨hP1, hK1, hD1⟩ := hB
        replace hP1 := va_P.he ht hP1
        obtain ⟨hP, hD⟩ := va_join (wr := [(bo, .inr (1, [.ref bob, .int bo_length])), (bob, .inl (cbob, 8192, .inl gbob)), (pk, .inl (cpk, 4100, .inl gpk)), (pg, .inl (cpg, 4100, .inr (.inr (.inr (.inr (fun j => (gpg j).map (sg sa))))))), (pp, .inl (cpp, 4100, .inl gpp)), (pz, .inl (cpz, 4100, .inl gpz)), (pv, .inl (cpv, 4100, .inr (.inl gpv))), (gl, .inr (5, [.ref tr, .ref gls, .ref glz, .ref glt, .ref glv, .int gl_length])), (gls, .inl (cgls, 20, .inl ggls)), (glz, .inl (cglz, 20, .inl gglz)), (glt, .inl (cglt, 20, .inl gglt)), (pe, .inl (cpe, 680, .inl gpe))]) (w1 := (wz_150 h0 pr kn lt n17 pe n5 h0_gives h0_depth h0_loopDepth to bo cs se pr gl fu pa pf sf pk pg pp pz pv n20 n19 pr_scanner_r pr_stepCount pr_open pr_twoSides pr_waiting_r pr_waitingPlaces_r pr_waitingCount lt clt n16 kn tr kns knz knt knv n18 kns ckns n12 knz cknz n15 knt cknt n13 knv cknv n14 tr tx tr_length tx ctx gtx)) hP hD [20, 0, 1, 4, 5, 6, 7, 8, 9, 10] [2, 3, 11, 12, 13, 14, 15, 16, 17, 18, 19, 21] rfl rfl (by decide) (by decide) hk1 hFc hP1 hD1
        have hP : va_P (dC, dI) cls (wz_198 bo bob bo_length bob cbob gbob pk cpk gpk pg cpg (fun j => (gpg j).map (sg sa)) pp cpp gpp pz cpz gpz pv cpv gpv gl tr gls glz glt glv gl_length gls cgls ggls glz cglz gglz glt cglt gglt pe cpe gpe h0 pr kn lt n17 pe n5 h0_gives h0_depth h0_loopDepth to bo cs se pr gl fu pa pf sf pk pg pp pz pv n20 n19 pr_scanner_r pr_stepCount pr_open pr_twoSides pr_waiting_r pr_waitingPlaces_r pr_waitingCount lt clt n16 kn tr kns knz knt knv n18 kns ckns n12 knz cknz n15 knt cknt n13 knv cknv n14 tr tx tr_length tx ctx gtx) H1 := hP
        have hD : va_D A (wz_198 bo bob bo_length bob cbob gbob pk cpk gpk pg cpg (fun j => (gpg j).map (sg sa)) pp cpp gpp pz cpz gpz pv cpv gpv gl tr gls glz glt glv gl_length gls cgls ggls glz cglz gglz glt cglt gglt pe cpe gpe h0 pr kn lt n17 pe n5 h0_gives h0_depth h0_loopDepth to bo cs se pr gl fu pa pf sf pk pg pp pz pv n20 n19 pr_scanner_r pr_stepCount pr_open pr_twoSides pr_waiting_r pr_waitingPlaces_r pr_waitingCount lt clt n16 kn tr kns knz knt knv n18 kns ckns n12 knz cknz n15 knt cknt n13 knv cknv n14 tr tx tr_length tx ctx gtx) := hD
        have hP9 := hP.sb (wq := (wz_195 h0 pr kn lt n17 pe n5 h0_gives h0_depth h0_loopDepth to bo cs se pr gl fu pa pf sf pk pg pp pz pv n20 n19 pr_scanner_r pr_stepCount pr_open pr_twoSides pr_waiting_r pr_waitingPlaces_r pr_waitingCount lt clt n16 pe cpe gpe bo bob bo_length bob cbob gbob kn tr kns knz knt knv n18 kns ckns n12 knz cknz n15 knt cknt n13 knv cknv n14 tr tx tr_length tx ctx gtx pk cpk gpk pg cpg (fun j => (gpg j).map (sg sa)) pp cpp gpp pz cpz gpz pv cpv gpv gl tr gls glz glt glv gl_length gls cgls ggls glz cglz gglz glt cglt gglt)) [12, 13, 14, 11, 0, 1, 15, 16, 17, 18, 19, 20, 21, 2, 3, 4, 5, 6, 7, 8, 9, 10] rfl
        have hD9 := hD.sb (wq := (wz_195 h0 pr kn lt n17 pe n5 h0_gives h0_depth h0_loopDepth to bo cs se pr gl fu pa pf sf pk pg pp pz pv n20 n19 pr_scanner_r pr_stepCount pr_open pr_twoSides pr_waiting_r pr_waitingPlaces_r pr_waitingCount lt clt n16 pe cpe gpe bo bob bo_length bob cbob gbob kn tr kns knz knt knv n18 kns ckns n12 knz cknz n15 knt cknt n13 knv cknv n14 tr tx tr_length tx ctx gtx pk cpk gpk pg cpg (fun j => (gpg j).map (sg sa)) pp cpp gpp pz cpz gpz pv cpv gpv gl tr gls glz glt glv gl_length gls cgls ggls glz cglz gglz glt cglt gglt)) [12, 13, 14, 11, 0, 1, 15, 16, 17, 18, 19, 20, 21, 2, 3, 4, 5, 6, 7, 8, 9, 10] (by decide) rfl
        exact tz_leave rfl hno hlocks (fun t ht hW => ⟨⟨(gbob, n12, n13, n14, n15, n16, bo_length, n17, n5, n18, n19, n20), ⟨⟨b_bo_length, bn17, bn5, bn18⟩, by rw [ht]; exact hXX.moved hW.alike⟩, va_P.he ht.symm hP9, va_K.moved hW.alike hK, hD9⟩, hS.F ht⟩) hS.2.2
      obtain ⟨n21, n22, n23, n24, n25, n26, n27, n28, n29⟩ := u
      try dsimp only at hw
      obtain ⟨bn26, bn27, xr11⟩ := hw
      try clear hw
      obtain ⟨hP1, hK1, hD1⟩ := hB
      replace hP1 := va_P.he ht hP1
      obtain ⟨hP, hD⟩ := va_join (wr := [(bo, .inr (1, [.ref bob, .int bo_length])), (bob, .inl (cbob, 8192, .inl gbob)), (pk, .inl (cpk, 4100, .inl gpk)), (pg, .inl (cpg, 4100, .inr (.inr (.inr (.inr (fun j => (gpg j).map (sg sa))))))), (pp, .inl (cpp, 4100, .inl gpp)), (pz, .inl (cpz, 4100, .inl gpz)), (pv, .inl (cpv, 4100, .inr (.inl gpv))), (gl, .inr (5, [.ref tr, .ref gls, .ref glz, .ref glt, .ref glv, .int gl_length])), (gls, .inl (cgls, 20, .inl ggls)), (glz, .inl (cglz, 20, .inl gglz)), (glt, .inl (cglt, 20, .inl gglt)), (pe, .inl (cpe, 680, .inl gpe))]) (w1 := (wz_150 h0 pr kn lt n26 pe n5 h0_gives h0_depth h0_loopDepth to bo cs se pr gl fu pa pf sf pk pg pp pz pv n29 n28 pr_scanner_r pr_stepCount pr_open pr_twoSides pr_waiting_r pr_waitingPlaces_r pr_waitingCount lt clt n25 kn tr kns knz knt knv n27 kns ckns n21 knz cknz n24 knt cknt n22 knv cknv n23 tr tx tr_length tx ctx gtx)) hP hD [20, 0, 1, 4, 5, 6, 7, 8, 9, 10] [2, 3, 11, 12, 13, 14, 15, 16, 17, 18, 19, 21] rfl rfl (by decide) (by decide) hk1 hFc hP1 hD1
      clear hPc hDc hKc hFc hz1 hk1 hP1 hK1 hD1
      rename Heap => H
      have hP : va_P (dC, dI) cls (wz_198 bo bob bo_length bob cbob gbob pk cpk gpk pg cpg (fun j => (gpg j).map (sg sa)) pp cpp gpp pz cpz gpz pv cpv gpv gl tr gls glz glt glv gl_length gls cgls ggls glz cglz gglz glt cglt gglt pe cpe gpe h0 pr kn lt n26 pe n5 h0_gives h0_depth h0_loopDepth to bo cs se pr gl fu pa pf sf pk pg pp pz pv n29 n28 pr_scanner_r pr_stepCount pr_open pr_twoSides pr_waiting_r pr_waitingPlaces_r pr_waitingCount lt clt n25 kn tr kns knz knt knv n27 kns ckns n21 knz cknz n24 knt cknt n22 knv cknv n23 tr tx tr_length tx ctx gtx) H := hP
      have hD : va_D A (wz_198 bo bob bo_length bob cbob gbob pk cpk gpk pg cpg (fun j => (gpg j).map (sg sa)) pp cpp gpp pz cpz gpz pv cpv gpv gl tr gls glz glt glv gl_length gls cgls ggls glz cglz gglz glt cglt gglt pe cpe gpe h0 pr kn lt n26 pe n5 h0_gives h0_depth h0_loopDepth to bo cs se pr gl fu pa pf sf pk pg pp pz pv n29 n28 pr_scanner_r pr_stepCount pr_open pr_twoSides pr_waiting_r pr_waitingPlaces_r pr_waitingCount lt clt n25 kn tr kns knz knt knv n27 kns ckns n21 knz cknz n24 knt cknt n22 knv cknv n23 tr tx tr_length tx ctx gtx) := hD
      refine lv_aload_n hx hb d_CO_codeStatement_108 rfl (lv_at hl 2 rfl) ?_
      refine va_get (D := (dC, dI)) (ci := 2) (v := .ref bo) (C := R_CO) (T := F_CO) (N := 13) hx hb hts i_CO hown hK hP 12 rfl rfl 10 (by decide) (hts _ kF_CO_26) (fun _ h9 => h9) rfl d_CO_codeStatement_109 ?_
      refine lv_bipush (v := 33) hx hb d_CO_codeStatement_112 (by decide) ?_
      have hPc := hP.sb (wq := (wz_94 bo bob bo_length bob cbob gbob)) [0, 1] rfl
      have hDc := hD.sb (wq := (wz_94 bo bob bo_length bob cbob gbob)) [0, 1] (by decide) rfl
      have hKc := hK.sb (tyq := [(cbob, .byte)]) [2] rfl
      have hFc := va_free (wc := (wz_94 bo bob bo_length bob cbob gbob)) hD hS hA [0, 1] rfl
      refine va_callv (va_runV (As := [.int 33]) (rest := []) ⟨hx, hb, hml, hown, hts⟩ (c_BR_put l dC dI bo bob H.size cbob 8192 bo_length gbob (by (first | (apply Int.le_antisymm <;> omega) | omega)) (by (first | (apply Int.le_antisymm <;> omega) | omega)) (by (first | (apply Int.le_antisymm <;> omega) | omega)) 33) (cwV 1 hts (gV kM_CO_76 kV_BR_put kS_BR_put kI_BR kC_BR_put) rfl rfl rfl (by decide +kernel) ⟨Nat.le_of_ble_eq_true rfl, Nat.le_of_ble_eq_true rfl⟩) ⟨fun a U g mk z => by obtain ⟨z0, z1, zP, zK, zD⟩ := z; exact ⟨z0, z1, zP, va_K.moved (u := U) (U := U.calling g mk a) (Vm.Alike.refl U.vm) zK, zD⟩, va_recv hKc hPc (ci := 1) (q0 := 0) rfl rfl, fun U hU hW => ⟨rfl, by rw [hU], va_P.he hU.symm hPc, va_K.moved hW.alike hKc, hDc.weaken (fun _ _ _ _ => trivial)⟩⟩ rfl rfl hl.1 rfl (lv_room (Nat.le_of_ble_eq_true rfl)) d_CO_codeStatement_114 ⟨(Nat.zero_le _), (Nat.zero_le _)⟩) hS (fun q _ h => hFc q h) hFc (fun u t H1 locs ht hvm hw hB hz1 hk1 hS => ?_)
      obtain ⟨n31, f32⟩ := u
      try dsimp only at hw
      have tn31 := br_put_in (by (first | (apply Int.le_antisymm <;> omega) | omega)) (by (first | (apply Int.le_antisymm <;> omega) | omega)) (by (first | (apply Int.le_antisymm <;> omega) | omega)) hw
      have bn31 := br_put_bl (by (first | (apply Int.le_antisymm <;> omega) | omega)) (by (first | (apply Int.le_antisymm <;> omega) | omega)) (by (first | (apply Int.le_antisymm <;> omega) | omega)) hw
      obtain ⟨hP1, hK1, hD1⟩ := hB
      replace hP1 := va_P.he ht hP1
      obtain ⟨hP, hD⟩ := va_join (wr := [(pk, .inl (cpk, 4100, .inl gpk)), (pg, .inl (cpg, 4100, .inr (.inr (.inr (.inr (fun j => (gpg j).map (sg sa))))))), (pp, .inl (cpp, 4100, .inl gpp)), (pz, .inl (cpz, 4100, .inl gpz)), (pv, .inl (cpv, 4100, .inr (.inl gpv))), (gl, .inr (5, [.ref tr, .ref gls, .ref glz, .ref glt, .ref glv, .int gl_length])), (gls, .inl (cgls, 20, .inl ggls)), (glz, .inl (cglz, 20, .inl gglz)), (glt, .inl (cglt, 20, .inl gglt)), (pe, .inl (cpe, 680, .inl gpe)), (h0, .inr (2, [.ref pr, .ref kn, .ref lt, .int n26, .ref pe, .int n5, .int h0_gives, .int h0_depth, .int h0_loopDepth, .ref to, .ref bo, .ref cs, .ref se])), (pr, .inr (6, [.ref gl, .ref fu, .ref pa, .ref pf, .ref sf, .ref pk, .ref pg, .ref pp, .ref pz, .ref pv, .int n29, .int n28, .ref pr_scanner_r, .int pr_stepCount, .int pr_open, .int pr_twoSides, .ref pr_waiting_r, .ref pr_waitingPlaces_r, .int pr_waitingCount])), (lt, .inl (clt, 50, .inl n25)), (kn, .inr (5, [.ref tr, .ref kns, .ref knz, .ref knt, .ref knv, .int n27])), (kns, .inl (ckns, 50, .inl n21)), (knz, .inl (cknz, 50, .inl n24)), (knt, .inl (cknt, 50, .inl n22)), (knv, .inl (cknv, 50, .inr (.inl n23))), (tr, .inr (1, [.ref tx, .int tr_length])), (tx, .inl (ctx, 2000, .inl gtx))]) (w1 := (wz_94 bo bob n31 bob cbob f32)) hP hD [0, 1] [2, 3, 4, 5, 6, 7, 8, 9, 10, 11, 12, 13, 14, 15, 16, 17, 18, 19, 20, 21] rfl rfl (by decide) (by decide) hk1 hFc hP1 hD1
      clear hPc hDc hKc hFc hz1 hk1 hP1 hK1 hD1
      rename Heap => H
      have hP : va_P (dC, dI) cls (wz_199 pk cpk gpk pg cpg (fun j => (gpg j).map (sg sa)) pp cpp gpp pz cpz gpz pv cpv gpv gl tr gls glz glt glv gl_length gls cgls ggls glz cglz gglz glt cglt gglt pe cpe gpe h0 pr kn lt n26 pe n5 h0_gives h0_depth h0_loopDepth to bo cs se pr gl fu pa pf sf pk pg pp pz pv n29 n28 pr_scanner_r pr_stepCount pr_open pr_twoSides pr_waiting_r pr_waitingPlaces_r pr_waitingCount lt clt n25 kn tr kns knz knt knv n27 kns ckns n21 knz cknz n24 knt cknt n22 knv cknv n23 tr tx tr_length tx ctx gtx bo bob n31 bob cbob f32) H := hP
      have hD : va_D A (wz_199 pk cpk gpk pg cpg (fun j => (gpg j).map (sg sa)) pp cpp gpp pz cpz gpz pv cpv gpv gl tr gls glz glt glv gl_length gls cgls ggls glz cglz gglz glt cglt gglt pe cpe gpe h0 pr kn lt n26 pe n5 h0_gives h0_depth h0_loopDepth to bo cs se pr gl fu pa pf sf pk pg pp pz pv n29 n28 pr_scanner_r pr_stepCount pr_open pr_twoSides pr_waiting_r pr_waitingPlaces_r pr_waitingCount lt clt n25 kn tr kns knz knt knv n27 kns ckns n21 knz cknz n24 knt cknt n22 knv cknv n23 tr tx tr_length tx ctx gtx bo bob n31 bob cbob f32) := hD
      refine lv_aload_n hx hb d_CO_codeStatement_117 rfl (lv_at hl 2 rfl) ?_
      refine va_get (D := (dC, dI)) (ci := 2) (v := .ref bo) (C := R_CO) (T := F_CO) (N := 13) hx hb hts i_CO hown hK hP 10 rfl rfl 10 (by decide) (hts _ kF_CO_26) (fun _ h9 => h9) rfl d_CO_codeStatement_118 ?_
      refine lv_aload_n hx hb d_CO_codeStatement_121 rfl (lv_at hl 2 rfl) ?_
      refine va_get (D := (dC, dI)) (ci := 2) (v := .int n26) (C := R_CO) (T := F_CO) (N := 13) hx hb hts i_CO hown hK hP 10 rfl rfl 3 (by decide) (hts _ kF_CO_109) (fun _ h9 => h9) rfl d_CO_codeStatement_122 ?_
      refine lv_iconst (v := 1) hx hb d_CO_codeStatement_125 (by decide) ?_
      refine lv_isub hx hb d_CO_codeStatement_126 ?_
      refine lv_topi (fun x33 ex33 => ?_)
      have tx33 : x33.toInt = n26.toInt - 1 := by have z := i32_sub ex33 (by (first | (apply Int.le_antisymm <;> omega) | omega)) (by (first | (apply Int.le_antisymm <;> omega) | omega)); first | exact z | (first | (apply Int.le_antisymm <;> omega) | omega)
      have hPc := hP.sb (wq := (wz_94 bo bob n31 bob cbob f32)) [20, 21] rfl
      have hDc := hD.sb (wq := (wz_94 bo bob n31 bob cbob f32)) [20, 21] (by decide) rfl
      have hKc := hK.sb (tyq := [(cbob, .byte)]) [2] rfl
      have hFc := va_free (wc := (wz_94 bo bob n31 bob cbob f32)) hD hS hA [20, 21] rfl
      refine va_callv (va_runV (As := [.int x33]) (rest := []) ⟨hx, hb, hml, hown, hts⟩ (c_BR_putUnsigned l dC dI bo bob H.size cbob 8192 n31 f32 (by (first | (apply Int.le_antisymm <;> omega) | omega)) (by (first | (apply Int.le_antisymm <;> omega) | omega)) (by (first | (apply Int.le_antisymm <;> omega) | omega)) x33 (by (first | (apply Int.le_antisymm <;> omega) | omega))) (cwV 1 hts (gV kM_CO_218 kV_BR_putUnsigned kS_BR_putUnsigned kI_BR kC_BR_putUnsigned) rfl rfl rfl (by decide +kernel) ⟨Nat.le_of_ble_eq_true rfl, Nat.le_of_ble_eq_true rfl⟩) ⟨fun a U g mk z => by obtain ⟨z0, z1, zP, zK, zD⟩ := z; exact ⟨z0, z1, zP, va_K.moved (u := U) (U := U.calling g mk a) (Vm.Alike.refl U.vm) zK, zD⟩, va_recv hKc hPc (ci := 1) (q0 := 0) rfl rfl, fun U hU hW => ⟨rfl, by rw [hU], va_P.he hU.symm hPc, va_K.moved hW.alike hKc, hDc.weaken (fun _ _ _ _ => trivial)⟩⟩ rfl rfl hl.1 rfl (lv_room (Nat.le_of_ble_eq_true rfl)) d_CO_codeStatement_127 ⟨(Nat.zero_le _), (Nat.zero_le _)⟩) hS (fun q _ h => hFc q h) hFc (fun u t H1 locs ht hvm hw hB hz1 hk1 hS => ?_)
      obtain ⟨n35, f36⟩ := u
      try dsimp only at hw
      obtain ⟨tn35, bn35⟩ := hw
      have ln35 := leb_len 5 (un x33)
      obtain ⟨hP1, hK1, hD1⟩ := hB
      replace hP1 := va_P.he ht hP1
      obtain ⟨hP, hD⟩ := va_join (wr := [(pk, .inl (cpk, 4100, .inl gpk)), (pg, .inl (cpg, 4100, .inr (.inr (.inr (.inr (fun j => (gpg j).map (sg sa))))))), (pp, .inl (cpp, 4100, .inl gpp)), (pz, .inl (cpz, 4100, .inl gpz)), (pv, .inl (cpv, 4100, .inr (.inl gpv))), (gl, .inr (5, [.ref tr, .ref gls, .ref glz, .ref glt, .ref glv, .int gl_length])), (gls, .inl (cgls, 20, .inl ggls)), (glz, .inl (cglz, 20, .inl gglz)), (glt, .inl (cglt, 20, .inl gglt)), (pe, .inl (cpe, 680, .inl gpe)), (h0, .inr (2, [.ref pr, .ref kn, .ref lt, .int n26, .ref pe, .int n5, .int h0_gives, .int h0_depth, .int h0_loopDepth, .ref to, .ref bo, .ref cs, .ref se])), (pr, .inr (6, [.ref gl, .ref fu, .ref pa, .ref pf, .ref sf, .ref pk, .ref pg, .ref pp, .ref pz, .ref pv, .int n29, .int n28, .ref pr_scanner_r, .int pr_stepCount, .int pr_open, .int pr_twoSides, .ref pr_waiting_r, .ref pr_waitingPlaces_r, .int pr_waitingCount])), (lt, .inl (clt, 50, .inl n25)), (kn, .inr (5, [.ref tr, .ref kns, .ref knz, .ref knt, .ref knv, .int n27])), (kns, .inl (ckns, 50, .inl n21)), (knz, .inl (cknz, 50, .inl n24)), (knt, .inl (cknt, 50, .inl n22)), (knv, .inl (cknv, 50, .inr (.inl n23))), (tr, .inr (1, [.ref tx, .int tr_length])), (tx, .inl (ctx, 2000, .inl gtx))]) (w1 := (wz_94 bo bob n35 bob cbob f36)) hP hD [20, 21] [0, 1, 2, 3, 4, 5, 6, 7, 8, 9, 10, 11, 12, 13, 14, 15, 16, 17, 18, 19] rfl rfl (by decide) (by decide) hk1 hFc hP1 hD1
      clear hPc hDc hKc hFc hz1 hk1 hP1 hK1 hD1
      rename Heap => H
      have hP : va_P (dC, dI) cls (wz_199 pk cpk gpk pg cpg (fun j => (gpg j).map (sg sa)) pp cpp gpp pz cpz gpz pv cpv gpv gl tr gls glz glt glv gl_length gls cgls ggls glz cglz gglz glt cglt gglt pe cpe gpe h0 pr kn lt n26 pe n5 h0_gives h0_depth h0_loopDepth to bo cs se pr gl fu pa pf sf pk pg pp pz pv n29 n28 pr_scanner_r pr_stepCount pr_open pr_twoSides pr_waiting_r pr_waitingPlaces_r pr_waitingCount lt clt n25 kn tr kns knz knt knv n27 kns ckns n21 knz cknz n24 knt cknt n22 knv cknv n23 tr tx tr_length tx ctx gtx bo bob n35 bob cbob f36) H := hP
      have hD : va_D A (wz_199 pk cpk gpk pg cpg (fun j => (gpg j).map (sg sa)) pp cpp gpp pz cpz gpz pv cpv gpv gl tr gls glz glt glv gl_length gls cgls ggls glz cglz gglz glt cglt gglt pe cpe gpe h0 pr kn lt n26 pe n5 h0_gives h0_depth h0_loopDepth to bo cs se pr gl fu pa pf sf pk pg pp pz pv n29 n28 pr_scanner_r pr_stepCount pr_open pr_twoSides pr_waiting_r pr_waitingPlaces_r pr_waitingCount lt clt n25 kn tr kns knz knt knv n27 kns ckns n21 knz cknz n24 knt cknt n22 knv cknv n23 tr tx tr_length tx ctx gtx bo bob n35 bob cbob f36) := hD
      refine lv_goto (tgt := 298) hx hb d_CO_codeStatement_130 (by decide) ?_
      have hP9 := hP.sb (wq := (wz_195 h0 pr kn lt n26 pe n5 h0_gives h0_depth h0_loopDepth to bo cs se pr gl fu pa pf sf pk pg pp pz pv n29 n28 pr_scanner_r pr_stepCount pr_open pr_twoSides pr_waiting_r pr_waitingPlaces_r pr_waitingCount lt clt n25 pe cpe gpe bo bob n35 bob cbob f36 kn tr kns knz knt knv n27 kns ckns n21 knz cknz n24 knt cknt n22 knv cknv n23 tr tx tr_length tx ctx gtx pk cpk gpk pg cpg (fun j => (gpg j).map (sg sa)) pp cpp gpp pz cpz gpz pv cpv gpv gl tr gls glz glt glv gl_length gls cgls ggls glz cglz gglz glt cglt gglt)) [10, 11, 12, 9, 20, 21, 13, 14, 15, 16, 17, 18, 19, 0, 1, 2, 3, 4, 5, 6, 7, 8] rfl
      have hD9 := hD.sb (wq := (wz_195 h0 pr kn lt n26 pe n5 h0_gives h0_depth h0_loopDepth to bo cs se pr gl fu pa pf sf pk pg pp pz pv n29 n28 pr_scanner_r pr_stepCount pr_open pr_twoSides pr_waiting_r pr_waitingPlaces_r pr_waitingCount lt clt n25 pe cpe gpe bo bob n35 bob cbob f36 kn tr kns knz knt knv n27 kns ckns n21 knz cknz n24 knt cknt n22 knv cknv n23 tr tx tr_length tx ctx gtx pk cpk gpk pg cpg (fun j => (gpg j).map (sg sa)) pp cpp gpp pz cpz gpz pv cpv gpv gl tr gls glz glt glv gl_length gls cgls ggls glz cglz gglz glt cglt gglt)) [10, 11, 12, 9, 20, 21, 13, 14, 15, 16, 17, 18, 19, 0, 1, 2, 3, 4, 5, 6, 7, 8] (by decide) rfl
      exact tz_up (fun _ => rfl) (W.vret hx hb hr (fun t ht hW => ⟨⟨(f36, n21, n22, n23, n24, n25, n35, n26, n5, n27, n28, n29), ⟨rfl, ⟨by (try dsimp only) <;> (first | (apply Int.le_antisymm <;> omega) | omega), bn26, bn5, bn27, ⟨by (try dsimp only); have hI := hI.out; have hbl : bl f36 n35.toNatClampNeg = bl gbob bo_length.toNatClampNeg ++ [33, h0_localCount.toInt.toNat] := (by rw [bn35, bn31 (by (first | (apply Int.le_antisymm <;> omega) | omega)), leb_s (by (first | (apply Int.le_antisymm <;> omega) | omega)) (by (first | (apply Int.le_antisymm <;> omega) | omega)), List.append_assoc, show x33.toInt = h0_localCount.toInt from by (first | (apply Int.le_antisymm <;> omega) | omega)]; rfl); rw [hbl, ec, show gC + 20 = gC + 10 * (n26.toInt - h0_localCount.toInt) + 10 from by (first | (apply Int.le_antisymm <;> omega) | omega)]; rw [eS, pl_s (n := h0_pendingCount.toNatClampNeg) (m := n5.toNatClampNeg) (by have := i32_clamp (x := n5) (by (first | (apply Int.le_antisymm <;> omega) | omega)); (first | (apply Int.le_antisymm <;> omega) | omega))] at hI; have hI := cI_K (K2 := n27.toInt) (cI_N (N2 := n26.toInt) hI (by (first | (apply Int.le_antisymm <;> omega) | omega))) (by (first | (apply Int.le_antisymm <;> omega) | omega)); exact cI_10 (x := (33, h0_localCount.toInt)) hI (by rw [← xr4.2]; (first | (apply Int.le_antisymm <;> omega) | omega)) (Or.inr (Or.inl rfl)) (fun _ => ⟨by dsimp only; (first | (apply Int.le_antisymm <;> omega) | omega), by dsimp only; (first | (apply Int.le_antisymm <;> omega) | omega)⟩) (fun z => absurd z (by dsimp only; decide)) (en_u (op := 33) (v := h0_localCount.toInt) (by (first | (apply Int.le_antisymm <;> omega) | omega)) (by (first | (apply Int.le_antisymm <;> omega) | omega)) (by (first | (apply Int.le_antisymm <;> omega) | omega))).symm (by simp) (by (first | (apply Int.le_antisymm <;> omega) | omega)) (Or.inr (Or.inr (Or.inr (Or.inl ⟨by dsimp only; (first | (apply Int.le_antisymm <;> omega) | omega), by dsimp only; (first | (apply Int.le_antisymm <;> omega) | omega), by dsimp only; (first | (apply Int.le_antisymm <;> omega) | omega)⟩)))), kq_add hkq.out (by (first | (apply Int.le_antisymm <;> omega) | omega)) (by (first | (apply Int.le_antisymm <;> omega) | omega)) xr11.2.1.1 xr11.1 xr11.2.1.2.2.2.1 xr11.2.1.2.2.2.2 (by (first | (apply Int.le_antisymm <;> omega) | omega)), by have := xr11.1; have := xr11.2.1.1; (try dsimp only) <;> (first | (apply Int.le_antisymm <;> omega) | omega), gq_add hlq.out (by (first | (apply Int.le_antisymm <;> omega) | omega)) xr11.1 xr11.2.2 (by (first | (apply Int.le_antisymm <;> omega) | omega)), by have := xr11.1; (try dsimp only) <;> (first | (apply Int.le_antisymm <;> omega) | omega)⟩⟩⟩, va_P.he ht.symm hP9, va_K.moved hW.alike hK, hD9⟩, hS.F ht⟩) hS.2.2 d_CO_codeStatement_298)
    · have q68 := neI c68
      refine lv_aload_n hx hb d_CO_codeStatement_71 rfl (lv_at hl 2 rfl) ?_
      refine va_get (D := (dC, dI)) (ci := 2) (v := .ref pr) (C := R_CO) (T := F_CO) (N := 13) hx hb hts i_CO hown hK hP 20 rfl rfl 0 (by decide) (hts _ kF_CO_36) (fun _ h9 => h9) rfl d_CO_codeStatement_72 ?_
      refine lv_iconst (v := 3) hx hb d_CO_codeStatement_75 (by decide) ?_
      refine lv_iload_n hx hb d_CO_codeStatement_76 rfl (lv_at hl 0 rfl) ?_
      have hPc := hP.sb (wq := (wz_110 pr gl fu pa pf sf pk pg pp pz pv pr_reason pr_place pr_scanner_r pr_stepCount pr_open pr_twoSides pr_waiting_r pr_waitingPlaces_r pr_waitingCount)) [0] rfl
      have hDc := hD.sb (wq := (wz_110 pr gl fu pa pf sf pk pg pp pz pv pr_reason pr_place pr_scanner_r pr_stepCount pr_open pr_twoSides pr_waiting_r pr_waitingPlaces_r pr_waitingCount)) [0] (by decide) rfl
      have hKc := hK.sb (tyq := []) [] rfl
      have hFc := va_free (wc := (wz_110 pr gl fu pa pf sf pk pg pp pz pv pr_reason pr_place pr_scanner_r pr_stepCount pr_open pr_twoSides pr_waiting_r pr_waitingPlaces_r pr_waitingCount)) hD hS hA [0] rfl
      refine tq_callv (tz_runV (As := [.int 3, .int x2]) (rest := []) ⟨hx, hb, hml, hown, hts⟩ (c_PR_refuse l hlt dC dI H.size sa pr gl fu pa pf sf pk pg pp pz pv pr_scanner_r pr_waiting_r pr_waitingPlaces_r pr_reason pr_place pr_stepCount pr_open pr_twoSides pr_waitingCount 3 x2) (cwV 2 hts (gV kM_CO_105 kV_PR_refuse kS_PR_refuse kI_PR kC_PR_refuse) rfl rfl rfl (by decide +kernel) ⟨Nat.le_of_ble_eq_true rfl, Nat.le_of_ble_eq_true rfl⟩) ⟨fun a U g mk z => by obtain ⟨z0, z1, zP, zK, zD, zS⟩ := z; exact ⟨z0, z1, zP, va_K.moved (u := U) (U := U.calling g mk a) (Vm.Alike.refl U.vm) zK, zD, sw.same (u := U) (U := U.calling g mk a) rfl zS⟩, va_recv hKc hPc (ci := 6) (q0 := 0) rfl rfl, fun U hU hW => ⟨rfl, by rw [hU], va_P.he hU.symm hPc, va_K.moved hW.alike hKc, hDc.weaken (fun _ _ _ _ => trivial), hSW.call hS hFc hW hU⟩⟩ rfl rfl hl.1 rfl (lv_room (Nat.le_of_ble_eq_true rfl)) d_CO_codeStatement_77 ⟨Nat.le_of_ble_eq_true rfl, Nat.le_of_ble_eq_true rfl⟩) hS (fun q _ h => hFc q h) hFc (fun u t H1 locs ht hvm hw hB hz1 hk1 hS => ?_) (fun xx u t H1 locs ht hvm hw hXX hB hz1 hk1 hS => ?_)
      rotate_left
      · skip
        obtain ⟨n38, n39⟩ := u
        try dsimp only at hw
        obtain ⟨hP1, hK1, hD1⟩ := hB
        replace hP1 := va_P.he ht hP1
        obtain ⟨hP, hD⟩ := va_join (wr := [(lt, .inl (clt, 50, .inl wlt)), (bo, .inr (1, [.ref bob, .int bo_length])), (bob, .inl (cbob, 8192, .inl gbob)), (kn, .inr (5, [.ref tr, .ref kns, .ref knz, .ref knt, .ref knv, .int kn_length])), (kns, .inl (ckns, 50, .inl gkns)), (knz, .inl (cknz, 50, .inl gknz)), (knt, .inl (cknt, 50, .inl gknt)), (knv, .inl (cknv, 50, .inr (.inl gknv))), (tr, .inr (1, [.ref tx, .int tr_length])), (tx, .inl (ctx, 2000, .inl gtx)), (pk, .inl (cpk, 4100, .inl gpk)), (pg, .inl (cpg, 4100, .inr (.inr (.inr (.inr (fun j => (gpg j).map (sg sa))))))), (pp, .inl (cpp, 4100, .inl gpp)), (pz, .inl (cpz, 4100, .inl gpz)), (pv, .inl (cpv, 4100, .inr (.inl gpv))), (gl, .inr (5, [.ref tr, .ref gls, .ref glz, .ref glt, .ref glv, .int gl_length])), (gls, .inl (cgls, 20, .inl ggls)), (glz, .inl (cglz, 20, .inl gglz)), (glt, .inl (cglt, 20, .inl gglt)), (h0, .inr (2, [.ref pr, .ref kn, .ref lt, .int h0_localCount, .ref pe, .int n5, .int h0_gives, .int h0_depth, .int h0_loopDepth, .ref to, .ref bo, .ref cs, .ref se])), (pe, .inl (cpe, 680, .inl gpe))]) (w1 := (wz_110 pr gl fu pa pf sf pk pg pp pz pv n39 n38 pr_scanner_r pr_stepCount pr_open pr_twoSides pr_waiting_r pr_waitingPlaces_r pr_waitingCount)) hP hD [0] [1, 2, 3, 4, 5, 6, 7, 8, 9, 10, 11, 12, 13, 14, 15, 16, 17, 18, 19, 20, 21] rfl rfl (by decide) (by decide) hk1 hFc hP1 hD1
        have hP : va_P (dC, dI) cls [(lt, .inl (clt, 50, .inl wlt)), (bo, .inr (1, [.ref bob, .int bo_length])), (bob, .inl (cbob, 8192, .inl gbob)), (kn, .inr (5, [.ref tr, .ref kns, .ref knz, .ref knt, .ref knv, .int kn_length])), (kns, .inl (ckns, 50, .inl gkns)), (knz, .inl (cknz, 50, .inl gknz)), (knt, .inl (cknt, 50, .inl gknt)), (knv, .inl (cknv, 50, .inr (.inl gknv))), (tr, .inr (1, [.ref tx, .int tr_length])), (tx, .inl (ctx, 2000, .inl gtx)), (pk, .inl (cpk, 4100, .inl gpk)), (pg, .inl (cpg, 4100, .inr (.inr (.inr (.inr (fun j => (gpg j).map (sg sa))))))), (pp, .inl (cpp, 4100, .inl gpp)), (pz, .inl (cpz, 4100, .inl gpz)), (pv, .inl (cpv, 4100, .inr (.inl gpv))), (gl, .inr (5, [.ref tr, .ref gls, .ref glz, .ref glt, .ref glv, .int gl_length])), (gls, .inl (cgls, 20, .inl ggls)), (glz, .inl (cglz, 20, .inl gglz)), (glt, .inl (cglt, 20, .inl gglt)), (h0, .inr (2, [.ref pr, .ref kn, .ref lt, .int h0_localCount, .ref pe, .int n5, .int h0_gives, .int h0_depth, .int h0_loopDepth, .ref to, .ref bo, .ref cs, .ref se])), (pe, .inl (cpe, 680, .inl gpe)), (pr, .inr (6, [.ref gl, .ref fu, .ref pa, .ref pf, .ref sf, .ref pk, .ref pg, .ref pp, .ref pz, .ref pv, .int n39, .int n38, .ref pr_scanner_r, .int pr_stepCount, .int pr_open, .int pr_twoSides, .ref pr_waiting_r, .ref pr_waitingPlaces_r, .int pr_waitingCount]))] H1 := hP
        have hD : va_D A [(lt, .inl (clt, 50, .inl wlt)), (bo, .inr (1, [.ref bob, .int bo_length])), (bob, .inl (cbob, 8192, .inl gbob)), (kn, .inr (5, [.ref tr, .ref kns, .ref knz, .ref knt, .ref knv, .int kn_length])), (kns, .inl (ckns, 50, .inl gkns)), (knz, .inl (cknz, 50, .inl gknz)), (knt, .inl (cknt, 50, .inl gknt)), (knv, .inl (cknv, 50, .inr (.inl gknv))), (tr, .inr (1, [.ref tx, .int tr_length])), (tx, .inl (ctx, 2000, .inl gtx)), (pk, .inl (cpk, 4100, .inl gpk)), (pg, .inl (cpg, 4100, .inr (.inr (.inr (.inr (fun j => (gpg j).map (sg sa))))))), (pp, .inl (cpp, 4100, .inl gpp)), (pz, .inl (cpz, 4100, .inl gpz)), (pv, .inl (cpv, 4100, .inr (.inl gpv))), (gl, .inr (5, [.ref tr, .ref gls, .ref glz, .ref glt, .ref glv, .int gl_length])), (gls, .inl (cgls, 20, .inl ggls)), (glz, .inl (cglz, 20, .inl gglz)), (glt, .inl (cglt, 20, .inl gglt)), (h0, .inr (2, [.ref pr, .ref kn, .ref lt, .int h0_localCount, .ref pe, .int n5, .int h0_gives, .int h0_depth, .int h0_loopDepth, .ref to, .ref bo, .ref cs, .ref se])), (pe, .inl (cpe, 680, .inl gpe)), (pr, .inr (6, [.ref gl, .ref fu, .ref pa, .ref pf, .ref sf, .ref pk, .ref pg, .ref pp, .ref pz, .ref pv, .int n39, .int n38, .ref pr_scanner_r, .int pr_stepCount, .int pr_open, .int pr_twoSides, .ref pr_waiting_r, .ref pr_waitingPlaces_r, .int pr_waitingCount]))] := hD
        have hP9 := hP.sb (wq := (wz_195 h0 pr kn lt h0_localCount pe n5 h0_gives h0_depth h0_loopDepth to bo cs se pr gl fu pa pf sf pk pg pp pz pv n39 n38 pr_scanner_r pr_stepCount pr_open pr_twoSides pr_waiting_r pr_waitingPlaces_r pr_waitingCount lt clt wlt pe cpe gpe bo bob bo_length bob cbob gbob kn tr kns knz knt knv kn_length kns ckns gkns knz cknz gknz knt cknt gknt knv cknv gknv tr tx tr_length tx ctx gtx pk cpk gpk pg cpg (fun j => (gpg j).map (sg sa)) pp cpp gpp pz cpz gpz pv cpv gpv gl tr gls glz glt glv gl_length gls cgls ggls glz cglz gglz glt cglt gglt)) [19, 21, 0, 20, 1, 2, 3, 4, 5, 6, 7, 8, 9, 10, 11, 12, 13, 14, 15, 16, 17, 18] rfl
        have hD9 := hD.sb (wq := (wz_195 h0 pr kn lt h0_localCount pe n5 h0_gives h0_depth h0_loopDepth to bo cs se pr gl fu pa pf sf pk pg pp pz pv n39 n38 pr_scanner_r pr_stepCount pr_open pr_twoSides pr_waiting_r pr_waitingPlaces_r pr_waitingCount lt clt wlt pe cpe gpe bo bob bo_length bob cbob gbob kn tr kns knz knt knv kn_length kns ckns gkns knz cknz gknz knt cknt gknt knv cknv gknv tr tx tr_length tx ctx gtx pk cpk gpk pg cpg (fun j => (gpg j).map (sg sa)) pp cpp gpp pz cpz gpz pv cpv gpv gl tr gls glz glt glv gl_length gls cgls ggls glz cglz gglz glt cglt gglt)) [19, 21, 0, 20, 1, 2, 3, 4, 5, 6, 7, 8, 9, 10, 11, 12, 13, 14, 15, 16, 17, 18] (by decide) rfl
        exact tz_leave rfl hno hlocks (fun t ht hW => ⟨⟨(gbob, gkns, gknt, gknv, gknz, wlt, bo_length, h0_localCount, n5, kn_length, n38, n39), ⟨⟨b_bo_length, b_h0_localCount, bn5, b_kn_length⟩, by rw [ht]; exact hXX.moved hW.alike⟩, va_P.he ht.symm hP9, va_K.moved hW.alike hK, hD9⟩, hS.F ht⟩) hS.2.2
      exact (show False from hw).elim
  · skip
    by_cases g29_133 : x3.toInt = 9
    · have ho29 : tab_off 214 8 11 #[31, 104, 112, 133] x3.toInt = 104 := by rw [g29_133]; rfl
      refine lv_tab (tgt := 133) hx hb d_CO_codeStatement_29 (by decide) ho29 (by decide) ?_
      clear ho29
      have h9 : (gpk p0.toNatClampNeg).toInt = 9 := by rw [← ex3]; (first | (apply Int.le_antisymm <;> omega) | omega)
      have s9 := sI_9 hs.out h9
      obtain ⟨s91, s92, ec, eS⟩ := s9
      have q1 := hI.out.1
      rw [eS] at q1
      have q1 := cJ_pos q1 (by decide)
      refine lv_aload_n hx hb d_CO_codeStatement_133 rfl (lv_at hl 2 rfl) ?_
      refine lv_iload_n hx hb d_CO_codeStatement_134 rfl (lv_at hl 3 rfl) ?_
      have hPc := hP.sb (wq := (wz_167 h0 pr kn lt h0_localCount pe h0_pendingCount h0_gives h0_depth h0_loopDepth to bo cs se pr gl fu pa pf sf pk pg pp pz pv pr_reason pr_place pr_scanner_r pr_stepCount pr_open pr_twoSides pr_waiting_r pr_waitingPlaces_r pr_waitingCount pe cpe gpe bo bob bo_length bob cbob gbob kn tr kns knz knt knv kn_length kns ckns gkns knz cknz gknz knt cknt gknt knv cknv gknv tr tx tr_length tx ctx gtx pp cpp gpp pz cpz gpz gl tr gls glz glt glv gl_length gls cgls ggls glz cglz gglz glt cglt gglt)) [0, 1, 3, 4, 5, 6, 7, 8, 9, 10, 11, 12, 15, 16, 18, 19, 20, 21] rfl
      have hDc := hD.sb (wq := (wz_167 h0 pr kn lt h0_localCount pe h0_pendingCount h0_gives h0_depth h0_loopDepth to bo cs se pr gl fu pa pf sf pk pg pp pz pv pr_reason pr_place pr_scanner_r pr_stepCount pr_open pr_twoSides pr_waiting_r pr_waitingPlaces_r pr_waitingCount pe cpe gpe bo bob bo_length bob cbob gbob kn tr kns knz knt knv kn_length kns ckns gkns knz cknz gknz knt cknt gknt knv cknv gknv tr tx tr_length tx ctx gtx pp cpp gpp pz cpz gpz gl tr gls glz glt glv gl_length gls cgls ggls glz cglz gglz glt cglt gglt)) [0, 1, 3, 4, 5, 6, 7, 8, 9, 10, 11, 12, 15, 16, 18, 19, 20, 21] (by decide) rfl
      have hKc := hK.sb (tyq := [(cpe, .int), (cbob, .byte), (ckns, .int), (cknz, .int), (cknt, .int), (cknv, .long), (ctx, .byte), (cpp, .int), (cpz, .int), (cgls, .int), (cglz, .int), (cglt, .int)]) [1, 2, 3, 4, 5, 6, 7, 10, 11, 13, 14, 15] rfl
      have hFc := va_free (wc := (wz_167 h0 pr kn lt h0_localCount pe h0_pendingCount h0_gives h0_depth h0_loopDepth to bo cs se pr gl fu pa pf sf pk pg pp pz pv pr_reason pr_place pr_scanner_r pr_stepCount pr_open pr_twoSides pr_waiting_r pr_waitingPlaces_r pr_waitingCount pe cpe gpe bo bob bo_length bob cbob gbob kn tr kns knz knt knv kn_length kns ckns gkns knz cknz gknz knt cknt gknt knv cknv gknv tr tx tr_length tx ctx gtx pp cpp gpp pz cpz gpz gl tr gls glz glt glv gl_length gls cgls ggls glz cglz gglz glt cglt gglt)) hD hS hA [0, 1, 3, 4, 5, 6, 7, 8, 9, 10, 11, 12, 15, 16, 18, 19, 20, 21] rfl
      refine tq_callv (tz_runV (As := [.int p0]) (rest := []) ⟨hx, hb, hml, hown, hts⟩ (c_CO_codeAssign l hlt dC dI H.size sa h0 pr kn lt pe to bo cs se gl fu pa pf sf pk pg pp pz pv pr_scanner_r pr_waiting_r pr_waitingPlaces_r bob tr kns knz knt knv tx gls glz glt glv cpe cbob ckns cknz cknt cknv ctx cpp cpz cgls cglz cglt h0_localCount h0_pendingCount h0_gives h0_depth h0_loopDepth pr_reason pr_place pr_stepCount pr_open pr_twoSides pr_waitingCount gpe bo_length gbob kn_length gkns gknz gknt gknv tr_length gtx gpp gpz gl_length ggls gglz gglt (b_h0_localCount) (b_h0_pendingCount) (b_bo_length) (b_kn_length) (b_tr_length) (b_gl_length) p0 (by (first | (apply Int.le_antisymm <;> omega) | omega)) (by (first | (apply Int.le_antisymm <;> omega) | omega)) (hkq.out) (hgq.out) (by (first | (apply Int.le_antisymm <;> omega) | omega)) (by (first | (apply Int.le_antisymm <;> omega) | omega))) (cwV 1 hts (gV kM_CO_273 kV_CO_codeAssign kS_CO_codeAssign kI_CO kC_CO_codeAssign) rfl rfl rfl (by decide +kernel) ⟨Nat.le_of_ble_eq_true rfl, Nat.le_of_ble_eq_true rfl⟩) ⟨fun a U g mk z => by obtain ⟨z0, z1, zP, zK, zD, zS⟩ := z; exact ⟨z0, z1, zP, va_K.moved (u := U) (U := U.calling g mk a) (Vm.Alike.refl U.vm) zK, zD, sw.same (u := U) (U := U.calling g mk a) rfl zS⟩, va_recv hKc hPc (ci := 2) (q0 := 0) rfl rfl, fun U hU hW => ⟨rfl, by rw [hU], va_P.he hU.symm hPc, va_K.moved hW.alike hKc, hDc.weaken (fun _ _ _ _ => trivial), hSW.call hS hFc hW hU⟩⟩ rfl rfl hl.1 rfl (lv_room (Nat.le_of_ble_eq_true rfl)) d_CO_codeStatement_135 ⟨Nat.le_of_ble_eq_true rfl, Nat.le_of_ble_eq_true rfl⟩) hS (fun q _ h => hFc q h) hFc (fun u t H1 locs ht hvm hw hB hz1 hk1 hS => ?_) (fun xx u t H1 locs ht hvm hw hXX hB hz1 hk1 hS => ?_)
      rotate_left
      · skip
        obtain ⟨n41, n42, n43, n44, n45⟩ := u
        try dsimp only at hw
        obtain ⟨bn42, bn43⟩ := hw
        obtain ⟨hP1, hK1, hD1⟩ := hB
        replace hP1 := va_P.he ht hP1
        obtain ⟨hP, hD⟩ := va_join (wr := [(lt, .inl (clt, 50, .inl wlt)), (pk, .inl (cpk, 4100, .inl gpk)), (pg, .inl (cpg, 4100, .inr (.inr (.inr (.inr (fun j => (gpg j).map (sg sa))))))), (pv, .inl (cpv, 4100, .inr (.inl gpv)))]) (w1 := (wz_167 h0 pr kn lt h0_localCount pe n43 h0_gives h0_depth h0_loopDepth to bo cs se pr gl fu pa pf sf pk pg pp pz pv n45 n44 pr_scanner_r pr_stepCount pr_open pr_twoSides pr_waiting_r pr_waitingPlaces_r pr_waitingCount pe cpe gpe bo bob n42 bob cbob n41 kn tr kns knz knt knv kn_length kns ckns gkns knz cknz gknz knt cknt gknt knv cknv gknv tr tx tr_length tx ctx gtx pp cpp gpp pz cpz gpz gl tr gls glz glt glv gl_length gls cgls ggls glz cglz gglz glt cglt gglt)) hP hD [0, 1, 3, 4, 5, 6, 7, 8, 9, 10, 11, 12, 15, 16, 18, 19, 20, 21] [2, 13, 14, 17] rfl rfl (by decide) (by decide) hk1 hFc hP1 hD1
        have hP : va_P (dC, dI) cls (wz_200 lt clt wlt pk cpk gpk pg cpg (fun j => (gpg j).map (sg sa)) pv cpv gpv h0 pr kn lt h0_localCount pe n43 h0_gives h0_depth h0_loopDepth to bo cs se pr gl fu pa pf sf pk pg pp pz pv n45 n44 pr_scanner_r pr_stepCount pr_open pr_twoSides pr_waiting_r pr_waitingPlaces_r pr_waitingCount pe cpe gpe bo bob n42 bob cbob n41 kn tr kns knz knt knv kn_length kns ckns gkns knz cknz gknz knt cknt gknt knv cknv gknv tr tx tr_length tx ctx gtx pp cpp gpp pz cpz gpz gl tr gls glz glt glv gl_length gls cgls ggls glz cglz gglz glt cglt gglt) H1 := hP
        have hD : va_D A (wz_200 lt clt wlt pk cpk gpk pg cpg (fun j => (gpg j).map (sg sa)) pv cpv gpv h0 pr kn lt h0_localCount pe n43 h0_gives h0_depth h0_loopDepth to bo cs se pr gl fu pa pf sf pk pg pp pz pv n45 n44 pr_scanner_r pr_stepCount pr_open pr_twoSides pr_waiting_r pr_waitingPlaces_r pr_waitingCount pe cpe gpe bo bob n42 bob cbob n41 kn tr kns knz knt knv kn_length kns ckns gkns knz cknz gknz knt cknt gknt knv cknv gknv tr tx tr_length tx ctx gtx pp cpp gpp pz cpz gpz gl tr gls glz glt glv gl_length gls cgls ggls glz cglz gglz glt cglt gglt) := hD
        have hP9 := hP.sb (wq := (wz_195 h0 pr kn lt h0_localCount pe n43 h0_gives h0_depth h0_loopDepth to bo cs se pr gl fu pa pf sf pk pg pp pz pv n45 n44 pr_scanner_r pr_stepCount pr_open pr_twoSides pr_waiting_r pr_waitingPlaces_r pr_waitingCount lt clt wlt pe cpe gpe bo bob n42 bob cbob n41 kn tr kns knz knt knv kn_length kns ckns gkns knz cknz gknz knt cknt gknt knv cknv gknv tr tx tr_length tx ctx gtx pk cpk gpk pg cpg (fun j => (gpg j).map (sg sa)) pp cpp gpp pz cpz gpz pv cpv gpv gl tr gls glz glt glv gl_length gls cgls ggls glz cglz gglz glt cglt gglt)) [4, 5, 0, 6, 7, 8, 9, 10, 11, 12, 13, 14, 15, 1, 2, 16, 17, 3, 18, 19, 20, 21] rfl
        have hD9 := hD.sb (wq := (wz_195 h0 pr kn lt h0_localCount pe n43 h0_gives h0_depth h0_loopDepth to bo cs se pr gl fu pa pf sf pk pg pp pz pv n45 n44 pr_scanner_r pr_stepCount pr_open pr_twoSides pr_waiting_r pr_waitingPlaces_r pr_waitingCount lt clt wlt pe cpe gpe bo bob n42 bob cbob n41 kn tr kns knz knt knv kn_length kns ckns gkns knz cknz gknz knt cknt gknt knv cknv gknv tr tx tr_length tx ctx gtx pk cpk gpk pg cpg (fun j => (gpg j).map (sg sa)) pp cpp gpp pz cpz gpz pv cpv gpv gl tr gls glz glt glv gl_length gls cgls ggls glz cglz gglz glt cglt gglt)) [4, 5, 0, 6, 7, 8, 9, 10, 11, 12, 13, 14, 15, 1, 2, 16, 17, 3, 18, 19, 20, 21] (by decide) rfl
        exact tz_leave rfl hno hlocks (fun t ht hW => ⟨⟨(n41, gkns, gknt, gknv, gknz, wlt, n42, h0_localCount, n43, kn_length, n44, n45), ⟨⟨bn42, b_h0_localCount, bn43, b_kn_length⟩, by rw [ht]; exact hXX.moved hW.alike⟩, va_P.he ht.symm hP9, va_K.moved hW.alike hK, hD9⟩, hS.F ht⟩) hS.2.2
      obtain ⟨n46, n47, n48, n49, n50⟩ := u
      try dsimp only at hw
      obtain ⟨bn47, bn48, xr40⟩ := hw
      try clear hw
      obtain ⟨hP1, hK1, hD1⟩ := hB
      replace hP1 := va_P.he ht hP1
      obtain ⟨hP, hD⟩ := va_join (wr := [(lt, .inl (clt, 50, .inl wlt)), (pk, .inl (cpk, 4100, .inl gpk)), (pg, .inl (cpg, 4100, .inr (.inr (.inr (.inr (fun j => (gpg j).map (sg sa))))))), (pv, .inl (cpv, 4100, .inr (.inl gpv)))]) (w1 := (wz_167 h0 pr kn lt h0_localCount pe n48 h0_gives h0_depth h0_loopDepth to bo cs se pr gl fu pa pf sf pk pg pp pz pv n50 n49 pr_scanner_r pr_stepCount pr_open pr_twoSides pr_waiting_r pr_waitingPlaces_r pr_waitingCount pe cpe gpe bo bob n47 bob cbob n46 kn tr kns knz knt knv kn_length kns ckns gkns knz cknz gknz knt cknt gknt knv cknv gknv tr tx tr_length tx ctx gtx pp cpp gpp pz cpz gpz gl tr gls glz glt glv gl_length gls cgls ggls glz cglz gglz glt cglt gglt)) hP hD [0, 1, 3, 4, 5, 6, 7, 8, 9, 10, 11, 12, 15, 16, 18, 19, 20, 21] [2, 13, 14, 17] rfl rfl (by decide) (by decide) hk1 hFc hP1 hD1
      clear hPc hDc hKc hFc hz1 hk1 hP1 hK1 hD1
      rename Heap => H
      have hP : va_P (dC, dI) cls (wz_200 lt clt wlt pk cpk gpk pg cpg (fun j => (gpg j).map (sg sa)) pv cpv gpv h0 pr kn lt h0_localCount pe n48 h0_gives h0_depth h0_loopDepth to bo cs se pr gl fu pa pf sf pk pg pp pz pv n50 n49 pr_scanner_r pr_stepCount pr_open pr_twoSides pr_waiting_r pr_waitingPlaces_r pr_waitingCount pe cpe gpe bo bob n47 bob cbob n46 kn tr kns knz knt knv kn_length kns ckns gkns knz cknz gknz knt cknt gknt knv cknv gknv tr tx tr_length tx ctx gtx pp cpp gpp pz cpz gpz gl tr gls glz glt glv gl_length gls cgls ggls glz cglz gglz glt cglt gglt) H := hP
      have hD : va_D A (wz_200 lt clt wlt pk cpk gpk pg cpg (fun j => (gpg j).map (sg sa)) pv cpv gpv h0 pr kn lt h0_localCount pe n48 h0_gives h0_depth h0_loopDepth to bo cs se pr gl fu pa pf sf pk pg pp pz pv n50 n49 pr_scanner_r pr_stepCount pr_open pr_twoSides pr_waiting_r pr_waitingPlaces_r pr_waitingCount pe cpe gpe bo bob n47 bob cbob n46 kn tr kns knz knt knv kn_length kns ckns gkns knz cknz gknz knt cknt gknt knv cknv gknv tr tx tr_length tx ctx gtx pp cpp gpp pz cpz gpz gl tr gls glz glt glv gl_length gls cgls ggls glz cglz gglz glt cglt gglt) := hD
      refine lv_goto (tgt := 298) hx hb d_CO_codeStatement_138 (by decide) ?_
      have hP9 := hP.sb (wq := (wz_195 h0 pr kn lt h0_localCount pe n48 h0_gives h0_depth h0_loopDepth to bo cs se pr gl fu pa pf sf pk pg pp pz pv n50 n49 pr_scanner_r pr_stepCount pr_open pr_twoSides pr_waiting_r pr_waitingPlaces_r pr_waitingCount lt clt wlt pe cpe gpe bo bob n47 bob cbob n46 kn tr kns knz knt knv kn_length kns ckns gkns knz cknz gknz knt cknt gknt knv cknv gknv tr tx tr_length tx ctx gtx pk cpk gpk pg cpg (fun j => (gpg j).map (sg sa)) pp cpp gpp pz cpz gpz pv cpv gpv gl tr gls glz glt glv gl_length gls cgls ggls glz cglz gglz glt cglt gglt)) [4, 5, 0, 6, 7, 8, 9, 10, 11, 12, 13, 14, 15, 1, 2, 16, 17, 3, 18, 19, 20, 21] rfl
      have hD9 := hD.sb (wq := (wz_195 h0 pr kn lt h0_localCount pe n48 h0_gives h0_depth h0_loopDepth to bo cs se pr gl fu pa pf sf pk pg pp pz pv n50 n49 pr_scanner_r pr_stepCount pr_open pr_twoSides pr_waiting_r pr_waitingPlaces_r pr_waitingCount lt clt wlt pe cpe gpe bo bob n47 bob cbob n46 kn tr kns knz knt knv kn_length kns ckns gkns knz cknz gknz knt cknt gknt knv cknv gknv tr tx tr_length tx ctx gtx pk cpk gpk pg cpg (fun j => (gpg j).map (sg sa)) pp cpp gpp pz cpz gpz pv cpv gpv gl tr gls glz glt glv gl_length gls cgls ggls glz cglz gglz glt cglt gglt)) [4, 5, 0, 6, 7, 8, 9, 10, 11, 12, 13, 14, 15, 1, 2, 16, 17, 3, 18, 19, 20, 21] (by decide) rfl
      exact tz_up (fun _ => rfl) (W.vret hx hb hr (fun t ht hW => ⟨⟨(n46, gkns, gknt, gknv, gknz, wlt, n47, h0_localCount, n48, kn_length, n49, n50), ⟨rfl, ⟨bn47, b_h0_localCount, bn48, b_kn_length, ⟨by (try dsimp only); have hI := hI.out; obtain ⟨y1, y2, op, vv, y3, y4, y5⟩ := xr40; rw [y5, ec]; rw [eS, pl_s (n := h0_pendingCount.toNatClampNeg) (m := n48.toNatClampNeg) (by have := i32_clamp (x := n48) (by (first | (apply Int.le_antisymm <;> omega) | omega)); (first | (apply Int.le_antisymm <;> omega) | omega))] at hI; exact cI_10 (x := (op, vv)) hI (by rw [show n48.toNatClampNeg = (h0_pendingCount.toInt - 1).toNat from by have := i32_clamp (x := n48) (by (first | (apply Int.le_antisymm <;> omega) | omega)); (first | (apply Int.le_antisymm <;> omega) | omega)]; exact y2) (by dsimp only; (first | (apply Int.le_antisymm <;> omega) | omega)) (fun z => by dsimp only at z ⊢; (first | (apply Int.le_antisymm <;> omega) | omega)) (fun z => by dsimp only at z ⊢; (first | (apply Int.le_antisymm <;> omega) | omega)) (en_u (by (first | (apply Int.le_antisymm <;> omega) | omega)) (by (first | (apply Int.le_antisymm <;> omega) | omega)) (by (first | (apply Int.le_antisymm <;> omega) | omega))).symm (by simp) (by (first | (apply Int.le_antisymm <;> omega) | omega)) (Or.inr (Or.inr (Or.inr (Or.inl ⟨by dsimp only; (first | (apply Int.le_antisymm <;> omega) | omega), by dsimp only; (first | (apply Int.le_antisymm <;> omega) | omega), by dsimp only; (first | (apply Int.le_antisymm <;> omega) | omega)⟩)))), hkq.out, by (try dsimp only) <;> (first | (apply Int.le_antisymm <;> omega) | omega), hlq.out, by (try dsimp only) <;> (first | (apply Int.le_antisymm <;> omega) | omega)⟩⟩⟩, va_P.he ht.symm hP9, va_K.moved hW.alike hK, hD9⟩, hS.F ht⟩) hS.2.2 d_CO_codeStatement_298)
    · skip
      by_cases g29_141 : x3.toInt = 10
      · have ho29 : tab_off 214 8 11 #[31, 104, 112, 133] x3.toInt = 112 := by rw [g29_141]; rfl
        refine lv_tab (tgt := 141) hx hb d_CO_codeStatement_29 (by decide) ho29 (by decide) ?_
        clear ho29
        have h9 : (gpk p0.toNatClampNeg).toInt = 10 := by rw [← ex3]; (first | (apply Int.le_antisymm <;> omega) | omega)
        have s9 := sI_10 hs.out h9
        obtain ⟨ec, eS⟩ := s9
        have q1 := hI.out.1
        rw [eS] at q1
        have q1 := cJ_pos q1 (by decide)
        refine lv_aload_n hx hb d_CO_codeStatement_141 rfl (lv_at hl 2 rfl) ?_
        have hPc := hP.sb (wq := (wz_149 h0 pr kn lt h0_localCount pe h0_pendingCount h0_gives h0_depth h0_loopDepth to bo cs se pe cpe gpe)) [0, 3] rfl
        have hDc := hD.sb (wq := (wz_149 h0 pr kn lt h0_localCount pe h0_pendingCount h0_gives h0_depth h0_loopDepth to bo cs se pe cpe gpe)) [0, 3] (by decide) rfl
        have hKc := hK.sb (tyq := [(cpe, .int)]) [1] rfl
        have hFc := va_free (wc := (wz_149 h0 pr kn lt h0_localCount pe h0_pendingCount h0_gives h0_depth h0_loopDepth to bo cs se pe cpe gpe)) hD hS hA [0, 3] rfl
        refine va_calli (va_runV (As := []) (rest := []) ⟨hx, hb, hml, hown, hts⟩ (c_CO_pop l dC dI H.size h0 pr kn lt pe to bo cs se cpe h0_localCount h0_pendingCount h0_gives h0_depth h0_loopDepth gpe (b_h0_pendingCount) (by (first | (apply Int.le_antisymm <;> omega) | omega))) (cwV 0 hts (gV kM_CO_224 kV_CO_pop kS_CO_pop kI_CO kC_CO_pop) rfl rfl rfl (by decide +kernel) ⟨Nat.le_of_ble_eq_true rfl, Nat.le_of_ble_eq_true rfl⟩) ⟨fun a U g mk z => by obtain ⟨z0, z1, zP, zK, zD⟩ := z; exact ⟨z0, z1, zP, va_K.moved (u := U) (U := U.calling g mk a) (Vm.Alike.refl U.vm) zK, zD⟩, va_recv hKc hPc (ci := 2) (q0 := 0) rfl rfl, fun U hU hW => ⟨rfl, by rw [hU], va_P.he hU.symm hPc, va_K.moved hW.alike hKc, hDc.weaken (fun _ _ _ _ => trivial)⟩⟩ rfl rfl hl.1 rfl (lv_room (Nat.le_of_ble_eq_true rfl)) d_CO_codeStatement_142 ⟨(Nat.zero_le _), (Nat.zero_le _)⟩) hS (fun q _ h => hFc q h) hFc (fun r51 u t H1 locs ht hvm hw hB hz1 hk1 hS => ?_)
        obtain ⟨n52, rfl⟩ : ∃ z, z = u := ⟨_, rfl⟩
        try dsimp only at hw
        obtain ⟨bn52, xr51⟩ := hw
        try clear hw
        obtain ⟨hP1, hK1, hD1⟩ := hB
        replace hP1 := va_P.he ht hP1
        obtain ⟨hP, hD⟩ := va_join (wr := (wz_196 pr gl fu pa pf sf pk pg pp pz pv pr_reason pr_place pr_scanner_r pr_stepCount pr_open pr_twoSides pr_waiting_r pr_waitingPlaces_r pr_waitingCount lt clt wlt bo bob bo_length bob cbob gbob kn tr kns knz knt knv kn_length kns ckns gkns knz cknz gknz knt cknt gknt knv cknv gknv tr tx tr_length tx ctx gtx pk cpk gpk pg cpg (fun j => (gpg j).map (sg sa)) pp cpp gpp pz cpz gpz pv cpv gpv gl tr gls glz glt glv gl_length gls cgls ggls glz cglz gglz glt cglt gglt)) (w1 := (wz_149 h0 pr kn lt h0_localCount pe n52 h0_gives h0_depth h0_loopDepth to bo cs se pe cpe gpe)) hP hD [0, 3] [1, 2, 4, 5, 6, 7, 8, 9, 10, 11, 12, 13, 14, 15, 16, 17, 18, 19, 20, 21] rfl rfl (by decide) (by decide) hk1 hFc hP1 hD1
        clear hPc hDc hKc hFc hz1 hk1 hP1 hK1 hD1
        rename Heap => H
        have hP : va_P (dC, dI) cls (wz_197 pr gl fu pa pf sf pk pg pp pz pv pr_reason pr_place pr_scanner_r pr_stepCount pr_open pr_twoSides pr_waiting_r pr_waitingPlaces_r pr_waitingCount lt clt wlt bo bob bo_length bob cbob gbob kn tr kns knz knt knv kn_length kns ckns gkns knz cknz gknz knt cknt gknt knv cknv gknv tr tx tr_length tx ctx gtx pk cpk gpk pg cpg (fun j => (gpg j).map (sg sa)) pp cpp gpp pz cpz gpz pv cpv gpv gl tr gls glz glt glv gl_length gls cgls ggls glz cglz gglz glt cglt gglt h0 pr kn lt h0_localCount pe n52 h0_gives h0_depth h0_loopDepth to bo cs se pe cpe gpe) H := hP
        have hD : va_D A (wz_197 pr gl fu pa pf sf pk pg pp pz pv pr_reason pr_place pr_scanner_r pr_stepCount pr_open pr_twoSides pr_waiting_r pr_waitingPlaces_r pr_waitingCount lt clt wlt bo bob bo_length bob cbob gbob kn tr kns knz knt knv kn_length kns ckns gkns knz cknz gknz knt cknt gknt knv cknv gknv tr tx tr_length tx ctx gtx pk cpk gpk pg cpg (fun j => (gpg j).map (sg sa)) pp cpp gpp pz cpz gpz pv cpv gpv gl tr gls glz glt glv gl_length gls cgls ggls glz cglz gglz glt cglt gglt h0 pr kn lt h0_localCount pe n52 h0_gives h0_depth h0_loopDepth to bo cs se pe cpe gpe) := hD
        refine lv_bipush (v := 64) hx hb d_CO_codeStatement_145 (by decide) ?_
        refine lv_icmp_eq (tgt := 298) hx hb d_CO_codeStatement_147 (by decide) (fun c147 => ?_) (fun c147 => ?_)
        · have q147 := eqI c147
          have hP9 := hP.sb (wq := (wz_195 h0 pr kn lt h0_localCount pe n52 h0_gives h0_depth h0_loopDepth to bo cs se pr gl fu pa pf sf pk pg pp pz pv pr_reason pr_place pr_scanner_r pr_stepCount pr_open pr_twoSides pr_waiting_r pr_waitingPlaces_r pr_waitingCount lt clt wlt pe cpe gpe bo bob bo_length bob cbob gbob kn tr kns knz knt knv kn_length kns ckns gkns knz cknz gknz knt cknt gknt knv cknv gknv tr tx tr_length tx ctx gtx pk cpk gpk pg cpg (fun j => (gpg j).map (sg sa)) pp cpp gpp pz cpz gpz pv cpv gpv gl tr gls glz glt glv gl_length gls cgls ggls glz cglz gglz glt cglt gglt)) [20, 0, 1, 21, 2, 3, 4, 5, 6, 7, 8, 9, 10, 11, 12, 13, 14, 15, 16, 17, 18, 19] rfl
          have hD9 := hD.sb (wq := (wz_195 h0 pr kn lt h0_localCount pe n52 h0_gives h0_depth h0_loopDepth to bo cs se pr gl fu pa pf sf pk pg pp pz pv pr_reason pr_place pr_scanner_r pr_stepCount pr_open pr_twoSides pr_waiting_r pr_waitingPlaces_r pr_waitingCount lt clt wlt pe cpe gpe bo bob bo_length bob cbob gbob kn tr kns knz knt knv kn_length kns ckns gkns knz cknz gknz knt cknt gknt knv cknv gknv tr tx tr_length tx ctx gtx pk cpk gpk pg cpg (fun j => (gpg j).map (sg sa)) pp cpp gpp pz cpz gpz pv cpv gpv gl tr gls glz glt glv gl_length gls cgls ggls glz cglz gglz glt cglt gglt)) [20, 0, 1, 21, 2, 3, 4, 5, 6, 7, 8, 9, 10, 11, 12, 13, 14, 15, 16, 17, 18, 19] (by decide) rfl
          exact tz_up (fun _ => rfl) (W.vret hx hb hr (fun t ht hW => ⟨⟨(gbob, gkns, gknt, gknv, gknz, wlt, bo_length, h0_localCount, n52, kn_length, pr_place, pr_reason), ⟨rfl, ⟨b_bo_length, b_h0_localCount, bn52, b_kn_length, ⟨by (try dsimp only); have hI := hI.out; rw [ec]; rw [eS, pl_s (n := h0_pendingCount.toNatClampNeg) (m := n52.toNatClampNeg) (by have := i32_clamp (x := n52) (by (first | (apply Int.le_antisymm <;> omega) | omega)); (first | (apply Int.le_antisymm <;> omega) | omega))] at hI; rw [show (gpe n52.toNatClampNeg).toInt = 64 from by rw [← xr51.2]; (first | (apply Int.le_antisymm <;> omega) | omega)] at hI; exact cI_void hI, hkq.out, by (try dsimp only) <;> (first | (apply Int.le_antisymm <;> omega) | omega), hlq.out, by (try dsimp only) <;> (first | (apply Int.le_antisymm <;> omega) | omega)⟩⟩⟩, va_P.he ht.symm hP9, va_K.moved hW.alike hK, hD9⟩, hS.F ht⟩) hS.2.2 d_CO_codeStatement_298)
        · have q147 := neI c147
          refine lv_aload_n hx hb d_CO_codeStatement_150 rfl (lv_at hl 2 rfl) ?_
          refine va_get (D := (dC, dI)) (ci := 2) (v := .ref bo) (C := R_CO) (T := F_CO) (N := 13) hx hb hts i_CO hown hK hP 20 rfl rfl 10 (by decide) (hts _ kF_CO_26) (fun _ h9 => h9) rfl d_CO_codeStatement_151 ?_
          refine lv_bipush (v := 26) hx hb d_CO_codeStatement_154 (by decide) ?_
          have hPc := hP.sb (wq := (wz_94 bo bob bo_length bob cbob gbob)) [2, 3] rfl
          have hDc := hD.sb (wq := (wz_94 bo bob bo_length bob cbob gbob)) [2, 3] (by decide) rfl
          have hKc := hK.sb (tyq := [(cbob, .byte)]) [2] rfl
          have hFc := va_free (wc := (wz_94 bo bob bo_length bob cbob gbob)) hD hS hA [2, 3] rfl
          refine va_callv (va_runV (As := [.int 26]) (rest := []) ⟨hx, hb, hml, hown, hts⟩ (c_BR_put l dC dI bo bob H.size cbob 8192 bo_length gbob (by (first | (apply Int.le_antisymm <;> omega) | omega)) (by (first | (apply Int.le_antisymm <;> omega) | omega)) (by (first | (apply Int.le_antisymm <;> omega) | omega)) 26) (cwV 1 hts (gV kM_CO_76 kV_BR_put kS_BR_put kI_BR kC_BR_put) rfl rfl rfl (by decide +kernel) ⟨Nat.le_of_ble_eq_true rfl, Nat.le_of_ble_eq_true rfl⟩) ⟨fun a U g mk z => by obtain ⟨z0, z1, zP, zK, zD⟩ := z; exact ⟨z0, z1, zP, va_K.moved (u := U) (U := U.calling g mk a) (Vm.Alike.refl U.vm) zK, zD⟩, va_recv hKc hPc (ci := 1) (q0 := 0) rfl rfl, fun U hU hW => ⟨rfl, by rw [hU], va_P.he hU.symm hPc, va_K.moved hW.alike hKc, hDc.weaken (fun _ _ _ _ => trivial)⟩⟩ rfl rfl hl.1 rfl (lv_room (Nat.le_of_ble_eq_true rfl)) d_CO_codeStatement_156 ⟨(Nat.zero_le _), (Nat.zero_le _)⟩) hS (fun q _ h => hFc q h) hFc (fun u t H1 locs ht hvm hw hB hz1 hk1 hS => ?_)
          obtain ⟨n54, f55⟩ := u
          try dsimp only at hw
          have tn54 := br_put_in (by (first | (apply Int.le_antisymm <;> omega) | omega)) (by (first | (apply Int.le_antisymm <;> omega) | omega)) (by (first | (apply Int.le_antisymm <;> omega) | omega)) hw
          have bn54 := br_put_bl (by (first | (apply Int.le_antisymm <;> omega) | omega)) (by (first | (apply Int.le_antisymm <;> omega) | omega)) (by (first | (apply Int.le_antisymm <;> omega) | omega)) hw
          obtain ⟨hP1, hK1, hD1⟩ := hB
          replace hP1 := va_P.he ht hP1
          obtain ⟨hP, hD⟩ := va_join (wr := [(pr, .inr (6, [.ref gl, .ref fu, .ref pa, .ref pf, .ref sf, .ref pk, .ref pg, .ref pp, .ref pz, .ref pv, .int pr_reason, .int pr_place, .ref pr_scanner_r, .int pr_stepCount, .int pr_open, .int pr_twoSides, .ref pr_waiting_r, .ref pr_waitingPlaces_r, .int pr_waitingCount])), (lt, .inl (clt, 50, .inl wlt)), (kn, .inr (5, [.ref tr, .ref kns, .ref knz, .ref knt, .ref knv, .int kn_length])), (kns, .inl (ckns, 50, .inl gkns)), (knz, .inl (cknz, 50, .inl gknz)), (knt, .inl (cknt, 50, .inl gknt)), (knv, .inl (cknv, 50, .inr (.inl gknv))), (tr, .inr (1, [.ref tx, .int tr_length])), (tx, .inl (ctx, 2000, .inl gtx)), (pk, .inl (cpk, 4100, .inl gpk)), (pg, .inl (cpg, 4100, .inr (.inr (.inr (.inr (fun j => (gpg j).map (sg sa))))))), (pp, .inl (cpp, 4100, .inl gpp)), (pz, .inl (cpz, 4100, .inl gpz)), (pv, .inl (cpv, 4100, .inr (.inl gpv))), (gl, .inr (5, [.ref tr, .ref gls, .ref glz, .ref glt, .ref glv, .int gl_length])), (gls, .inl (cgls, 20, .inl ggls)), (glz, .inl (cglz, 20, .inl gglz)), (glt, .inl (cglt, 20, .inl gglt)), (h0, .inr (2, [.ref pr, .ref kn, .ref lt, .int h0_localCount, .ref pe, .int n52, .int h0_gives, .int h0_depth, .int h0_loopDepth, .ref to, .ref bo, .ref cs, .ref se])), (pe, .inl (cpe, 680, .inl gpe))]) (w1 := (wz_94 bo bob n54 bob cbob f55)) hP hD [2, 3] [0, 1, 4, 5, 6, 7, 8, 9, 10, 11, 12, 13, 14, 15, 16, 17, 18, 19, 20, 21] rfl rfl (by decide) (by decide) hk1 hFc hP1 hD1
          clear hPc hDc hKc hFc hz1 hk1 hP1 hK1 hD1
          rename Heap => H
          have hP : va_P (dC, dI) cls [(pr, .inr (6, [.ref gl, .ref fu, .ref pa, .ref pf, .ref sf, .ref pk, .ref pg, .ref pp, .ref pz, .ref pv, .int pr_reason, .int pr_place, .ref pr_scanner_r, .int pr_stepCount, .int pr_open, .int pr_twoSides, .ref pr_waiting_r, .ref pr_waitingPlaces_r, .int pr_waitingCount])), (lt, .inl (clt, 50, .inl wlt)), (kn, .inr (5, [.ref tr, .ref kns, .ref knz, .ref knt, .ref knv, .int kn_length])), (kns, .inl (ckns, 50, .inl gkns)), (knz, .inl (cknz, 50, .inl gknz)), (knt, .inl (cknt, 50, .inl gknt)), (knv, .inl (cknv, 50, .inr (.inl gknv))), (tr, .inr (1, [.ref tx, .int tr_length])), (tx, .inl (ctx, 2000, .inl gtx)), (pk, .inl (cpk, 4100, .inl gpk)), (pg, .inl (cpg, 4100, .inr (.inr (.inr (.inr (fun j => (gpg j).map (sg sa))))))), (pp, .inl (cpp, 4100, .inl gpp)), (pz, .inl (cpz, 4100, .inl gpz)), (pv, .inl (cpv, 4100, .inr (.inl gpv))), (gl, .inr (5, [.ref tr, .ref gls, .ref glz, .ref glt, .ref glv, .int gl_length])), (gls, .inl (cgls, 20, .inl ggls)), (glz, .inl (cglz, 20, .inl gglz)), (glt, .inl (cglt, 20, .inl gglt)), (h0, .inr (2, [.ref pr, .ref kn, .ref lt, .int h0_localCount, .ref pe, .int n52, .int h0_gives, .int h0_depth, .int h0_loopDepth, .ref to, .ref bo, .ref cs, .ref se])), (pe, .inl (cpe, 680, .inl gpe)), (bo, .inr (1, [.ref bob, .int n54])), (bob, .inl (cbob, 8192, .inl f55))] H := hP
          have hD : va_D A [(pr, .inr (6, [.ref gl, .ref fu, .ref pa, .ref pf, .ref sf, .ref pk, .ref pg, .ref pp, .ref pz, .ref pv, .int pr_reason, .int pr_place, .ref pr_scanner_r, .int pr_stepCount, .int pr_open, .int pr_twoSides, .ref pr_waiting_r, .ref pr_waitingPlaces_r, .int pr_waitingCount])), (lt, .inl (clt, 50, .inl wlt)), (kn, .inr (5, [.ref tr, .ref kns, .ref knz, .ref knt, .ref knv, .int kn_length])), (kns, .inl (ckns, 50, .inl gkns)), (knz, .inl (cknz, 50, .inl gknz)), (knt, .inl (cknt, 50, .inl gknt)), (knv, .inl (cknv, 50, .inr (.inl gknv))), (tr, .inr (1, [.ref tx, .int tr_length])), (tx, .inl (ctx, 2000, .inl gtx)), (pk, .inl (cpk, 4100, .inl gpk)), (pg, .inl (cpg, 4100, .inr (.inr (.inr (.inr (fun j => (gpg j).map (sg sa))))))), (pp, .inl (cpp, 4100, .inl gpp)), (pz, .inl (cpz, 4100, .inl gpz)), (pv, .inl (cpv, 4100, .inr (.inl gpv))), (gl, .inr (5, [.ref tr, .ref gls, .ref glz, .ref glt, .ref glv, .int gl_length])), (gls, .inl (cgls, 20, .inl ggls)), (glz, .inl (cglz, 20, .inl gglz)), (glt, .inl (cglt, 20, .inl gglt)), (h0, .inr (2, [.ref pr, .ref kn, .ref lt, .int h0_localCount, .ref pe, .int n52, .int h0_gives, .int h0_depth, .int h0_loopDepth, .ref to, .ref bo, .ref cs, .ref se])), (pe, .inl (cpe, 680, .inl gpe)), (bo, .inr (1, [.ref bob, .int n54])), (bob, .inl (cbob, 8192, .inl f55))] := hD
          refine lv_goto (tgt := 298) hx hb d_CO_codeStatement_159 (by decide) ?_
          have hP9 := hP.sb (wq := (wz_195 h0 pr kn lt h0_localCount pe n52 h0_gives h0_depth h0_loopDepth to bo cs se pr gl fu pa pf sf pk pg pp pz pv pr_reason pr_place pr_scanner_r pr_stepCount pr_open pr_twoSides pr_waiting_r pr_waitingPlaces_r pr_waitingCount lt clt wlt pe cpe gpe bo bob n54 bob cbob f55 kn tr kns knz knt knv kn_length kns ckns gkns knz cknz gknz knt cknt gknt knv cknv gknv tr tx tr_length tx ctx gtx pk cpk gpk pg cpg (fun j => (gpg j).map (sg sa)) pp cpp gpp pz cpz gpz pv cpv gpv gl tr gls glz glt glv gl_length gls cgls ggls glz cglz gglz glt cglt gglt)) [18, 0, 1, 19, 20, 21, 2, 3, 4, 5, 6, 7, 8, 9, 10, 11, 12, 13, 14, 15, 16, 17] rfl
          have hD9 := hD.sb (wq := (wz_195 h0 pr kn lt h0_localCount pe n52 h0_gives h0_depth h0_loopDepth to bo cs se pr gl fu pa pf sf pk pg pp pz pv pr_reason pr_place pr_scanner_r pr_stepCount pr_open pr_twoSides pr_waiting_r pr_waitingPlaces_r pr_waitingCount lt clt wlt pe cpe gpe bo bob n54 bob cbob f55 kn tr kns knz knt knv kn_length kns ckns gkns knz cknz gknz knt cknt gknt knv cknv gknv tr tx tr_length tx ctx gtx pk cpk gpk pg cpg (fun j => (gpg j).map (sg sa)) pp cpp gpp pz cpz gpz pv cpv gpv gl tr gls glz glt glv gl_length gls cgls ggls glz cglz gglz glt cglt gglt)) [18, 0, 1, 19, 20, 21, 2, 3, 4, 5, 6, 7, 8, 9, 10, 11, 12, 13, 14, 15, 16, 17] (by decide) rfl
          exact tz_up (fun _ => rfl) (W.vret hx hb hr (fun t ht hW => ⟨⟨(f55, gkns, gknt, gknv, gknz, wlt, n54, h0_localCount, n52, kn_length, pr_place, pr_reason), ⟨rfl, ⟨by (try dsimp only) <;> (first | (apply Int.le_antisymm <;> omega) | omega), b_h0_localCount, bn52, b_kn_length, ⟨by (try dsimp only); have hI := hI.out; have hbl : bl f55 n54.toNatClampNeg = bl gbob bo_length.toNatClampNeg ++ [26] := (by rw [bn54 (by (first | (apply Int.le_antisymm <;> omega) | omega))]; rfl); rw [hbl, ec]; rw [eS, pl_s (n := h0_pendingCount.toNatClampNeg) (m := n52.toNatClampNeg) (by have := i32_clamp (x := n52) (by (first | (apply Int.le_antisymm <;> omega) | omega)); (first | (apply Int.le_antisymm <;> omega) | omega))] at hI; exact cI_10 (x := (26, 0)) hI (by rw [← xr51.2]; (first | (apply Int.le_antisymm <;> omega) | omega)) (Or.inl rfl) (fun z => absurd z (by decide)) (fun z => absurd z (by decide)) (by decide) (by simp) (by (first | (apply Int.le_antisymm <;> omega) | omega)) (by simp [iok, two]), hkq.out, by (try dsimp only) <;> (first | (apply Int.le_antisymm <;> omega) | omega), hlq.out, by (try dsimp only) <;> (first | (apply Int.le_antisymm <;> omega) | omega)⟩⟩⟩, va_P.he ht.symm hP9, va_K.moved hW.alike hK, hD9⟩, hS.F ht⟩) hS.2.2 d_CO_codeStatement_298)
      · skip
        by_cases g29_162 : x3.toInt = 11
        · have ho29 : tab_off 214 8 11 #[31, 104, 112, 133] x3.toInt = 133 := by rw [g29_162]; rfl
          refine lv_tab (tgt := 162) hx hb d_CO_codeStatement_29 (by decide) ho29 (by decide) ?_
          clear ho29
          have h9 : (gpk p0.toNatClampNeg).toInt = 11 := by rw [← ex3]; (first | (apply Int.le_antisymm <;> omega) | omega)
          have s9 := sI_11 hs.out h9
          obtain ⟨ec, eS⟩ := s9
          refine lv_aload_n hx hb d_CO_codeStatement_162 rfl (lv_at hl 2 rfl) ?_
          refine va_get (D := (dC, dI)) (ci := 2) (v := .ref pr) (C := R_CO) (T := F_CO) (N := 13) hx hb hts i_CO hown hK hP 0 rfl rfl 0 (by decide) (hts _ kF_CO_36) (fun _ h9 => h9) rfl d_CO_codeStatement_163 ?_
          refine va_get (D := (dC, dI)) (ci := 6) (v := .ref pv) (C := R_PR) (T := F_PR) (N := 19) hx hb hts i_PR hown hK hP 1 rfl rfl 9 (by decide) (hts _ kF_CO_175) (fun _ h9 => h9) rfl d_CO_codeStatement_166 ?_
          refine lv_iload_n hx hb d_CO_codeStatement_169 rfl (lv_at hl 3 rfl) ?_
          have g170 : vp_in p0 4100 := vp_in_iff.mpr ⟨by (first | (apply Int.le_antisymm <;> omega) | omega), by (first | (apply Int.le_antisymm <;> omega) | omega)⟩
          refine va_lald hx hb hK hP 17 12 rfl rfl g170 d_CO_codeStatement_170 ?_
          refine lv_topl (fun x56 ex56 => ?_)
          refine lv_lconst (v := 0) hx hb d_CO_codeStatement_171 (by decide) ?_
          have kl0 : (0 : Int64).toInt = 0 := by decide
          refine W.lcmp hx hb d_CO_codeStatement_172 ?_
          refine lv_topi (fun x57 ex57 => ?_)
          have tx57 := lgc ex57
          refine w_cut (pc2 := 181) (σ := Int32) (fun u H locs ls => match u with | j181_s0 => (j181_s0 = 0 ∨ j181_s0 = 1) ∧ ((j181_s0 = 1 ∧ gpv p0.toNatClampNeg ≠ 0) ∨ (j181_s0 = 0 ∧ gpv p0.toNatClampNeg = 0)) ∧ va_P (dC, dI) cls (wz_195 h0 pr kn lt h0_localCount pe h0_pendingCount h0_gives h0_depth h0_loopDepth to bo cs se pr gl fu pa pf sf pk pg pp pz pv pr_reason pr_place pr_scanner_r pr_stepCount pr_open pr_twoSides pr_waiting_r pr_waitingPlaces_r pr_waitingCount lt clt wlt pe cpe gpe bo bob bo_length bob cbob gbob kn tr kns knz knt knv kn_length kns ckns gkns knz cknz gknz knt cknt gknt knv cknv gknv tr tx tr_length tx ctx gtx pk cpk gpk pg cpg (fun j => (gpg j).map (sg sa)) pp cpp gpp pz cpz gpz pv cpv gpv gl tr gls glz glt glv gl_length gls cgls ggls glz cglz gglz glt cglt gglt) H ∧ va_D A (wz_195 h0 pr kn lt h0_localCount pe h0_pendingCount h0_gives h0_depth h0_loopDepth to bo cs se pr gl fu pa pf sf pk pg pp pz pv pr_reason pr_place pr_scanner_r pr_stepCount pr_open pr_twoSides pr_waiting_r pr_waitingPlaces_r pr_waitingCount lt clt wlt pe cpe gpe bo bob bo_length bob cbob gbob kn tr kns knz knt knv kn_length kns ckns gkns knz cknz gknz knt cknt gknt knv cknv gknv tr tx tr_length tx ctx gtx pk cpk gpk pg cpg (fun j => (gpg j).map (sg sa)) pp cpp gpp pz cpz gpz pv cpv gpv gl tr gls glz glt glv gl_length gls cgls ggls glz cglz gglz glt cglt gglt) ∧ va_S A s.heap H locs ∧ lv_has ls 6 [(0, .ref h0), (3, .int x2)]) (fun u => match u with | j181_s0 => [.int j181_s0]) ?_ (fun jn181 => ?_)
          · intro u H locs ls hI
            obtain ⟨j181_s0, rfl⟩ : ∃ z, z = u := ⟨_, rfl⟩
            obtain ⟨b_j181_s0, y181, hP, hD, hS, hl⟩ := hI
            have tj181_s0 := b01 b_j181_s0
            refine lv_istore (lv' := [(4, .int j181_s0), (0, .ref h0), (3, .int x2)]) hx hb d_CO_codeStatement_181 hl (by decide) rfl (fun ls hl => ?_)
            refine lv_iload hx hb d_CO_codeStatement_183 (lv_at hl 0 rfl) ?_
            refine w_cut (pc2 := 197) (σ := Int32 × Int32) (fun u H locs ls => match u with | (j197_s0, j197_h0_pendingCount) => (0 ≤ j197_h0_pendingCount.toInt ∧ j197_h0_pendingCount.toInt ≤ 680) ∧ ((j181_s0 = 1 ∧ j197_h0_pendingCount.toInt = h0_pendingCount.toInt - 1 ∧ j197_s0 = gpe j197_h0_pendingCount.toNatClampNeg) ∨ (j181_s0 = 0 ∧ j197_h0_pendingCount.toInt = h0_pendingCount.toInt ∧ j197_s0.toInt = 64)) ∧ va_P (dC, dI) cls (wz_195 h0 pr kn lt h0_localCount pe j197_h0_pendingCount h0_gives h0_depth h0_loopDepth to bo cs se pr gl fu pa pf sf pk pg pp pz pv pr_reason pr_place pr_scanner_r pr_stepCount pr_open pr_twoSides pr_waiting_r pr_waitingPlaces_r pr_waitingCount lt clt wlt pe cpe gpe bo bob bo_length bob cbob gbob kn tr kns knz knt knv kn_length kns ckns gkns knz cknz gknz knt cknt gknt knv cknv gknv tr tx tr_length tx ctx gtx pk cpk gpk pg cpg (fun j => (gpg j).map (sg sa)) pp cpp gpp pz cpz gpz pv cpv gpv gl tr gls glz glt glv gl_length gls cgls ggls glz cglz gglz glt cglt gglt) H ∧ va_D A (wz_195 h0 pr kn lt h0_localCount pe j197_h0_pendingCount h0_gives h0_depth h0_loopDepth to bo cs se pr gl fu pa pf sf pk pg pp pz pv pr_reason pr_place pr_scanner_r pr_stepCount pr_open pr_twoSides pr_waiting_r pr_waitingPlaces_r pr_waitingCount lt clt wlt pe cpe gpe bo bob bo_length bob cbob gbob kn tr kns knz knt knv kn_length kns ckns gkns knz cknz gknz knt cknt gknt knv cknv gknv tr tx tr_length tx ctx gtx pk cpk gpk pg cpg (fun j => (gpg j).map (sg sa)) pp cpp gpp pz cpz gpz pv cpv gpv gl tr gls glz glt glv gl_length gls cgls ggls glz cglz gglz glt cglt gglt) ∧ va_S A s.heap H locs ∧ lv_has ls 6 [(0, .ref h0), (3, .int x2), (4, .int j181_s0)]) (fun u => match u with | (j197_s0, j197_h0_pendingCount) => [.int j197_s0]) ?_ (fun jn197 => ?_)
            · intro u H locs ls hI
              obtain ⟨j197_s0, j197_h0_pendingCount⟩ := u
              obtain ⟨b_j197_h0_pendingCount, y197, hP, hD, hS, hl⟩ := hI
              refine lv_istore (lv' := [(5, .int j197_s0), (0, .ref h0), (3, .int x2), (4, .int j181_s0)]) hx hb d_CO_codeStatement_197 hl (by decide) rfl (fun ls hl => ?_)
              refine lv_iload hx hb d_CO_codeStatement_199 (lv_at hl 0 rfl) ?_
              refine lv_aload_n hx hb d_CO_codeStatement_201 rfl (lv_at hl 1 rfl) ?_
              refine va_get (D := (dC, dI)) (ci := 2) (v := .int h0_gives) (C := R_CO) (T := F_CO) (N := 13) hx hb hts i_CO hown hK hP 0 rfl rfl 6 (by decide) (hts _ kF_CO_124) (fun _ h9 => h9) rfl d_CO_codeStatement_202 ?_
              refine w_cut (pc2 := 222) (σ := Unit) (fun u H locs ls => match u with | _ => va_P (dC, dI) cls (wz_195 h0 pr kn lt h0_localCount pe j197_h0_pendingCount h0_gives h0_depth h0_loopDepth to bo cs se pr gl fu pa pf sf pk pg pp pz pv pr_reason pr_place pr_scanner_r pr_stepCount pr_open pr_twoSides pr_waiting_r pr_waitingPlaces_r pr_waitingCount lt clt wlt pe cpe gpe bo bob bo_length bob cbob gbob kn tr kns knz knt knv kn_length kns ckns gkns knz cknz gknz knt cknt gknt knv cknv gknv tr tx tr_length tx ctx gtx pk cpk gpk pg cpg (fun j => (gpg j).map (sg sa)) pp cpp gpp pz cpz gpz pv cpv gpv gl tr gls glz glt glv gl_length gls cgls ggls glz cglz gglz glt cglt gglt) H ∧ va_D A (wz_195 h0 pr kn lt h0_localCount pe j197_h0_pendingCount h0_gives h0_depth h0_loopDepth to bo cs se pr gl fu pa pf sf pk pg pp pz pv pr_reason pr_place pr_scanner_r pr_stepCount pr_open pr_twoSides pr_waiting_r pr_waitingPlaces_r pr_waitingCount lt clt wlt pe cpe gpe bo bob bo_length bob cbob gbob kn tr kns knz knt knv kn_length kns ckns gkns knz cknz gknz knt cknt gknt knv cknv gknv tr tx tr_length tx ctx gtx pk cpk gpk pg cpg (fun j => (gpg j).map (sg sa)) pp cpp gpp pz cpz gpz pv cpv gpv gl tr gls glz glt glv gl_length gls cgls ggls glz cglz gglz glt cglt gglt) ∧ va_S A s.heap H locs ∧ lv_has ls 6 [(0, .ref h0), (3, .int x2)]) (fun u => match u with | _ => []) ?_ (fun jn222 => ?_)
              · intro u H locs ls hI
                obtain ⟨hP, hD, hS, hl⟩ := hI
                refine lv_aload_n hx hb d_CO_codeStatement_222 rfl (lv_at hl 0 rfl) ?_
                refine va_get (D := (dC, dI)) (ci := 2) (v := .ref pr) (C := R_CO) (T := F_CO) (N := 13) hx hb hts i_CO hown hK hP 0 rfl rfl 0 (by decide) (hts _ kF_CO_36) (fun _ h9 => h9) rfl d_CO_codeStatement_223 ?_
                refine lv_iconst (v := 3) hx hb d_CO_codeStatement_226 (by decide) ?_
                refine lv_iload_n hx hb d_CO_codeStatement_227 rfl (lv_at hl 1 rfl) ?_
                have hPc := hP.sb (wq := (wz_110 pr gl fu pa pf sf pk pg pp pz pv pr_reason pr_place pr_scanner_r pr_stepCount pr_open pr_twoSides pr_waiting_r pr_waitingPlaces_r pr_waitingCount)) [1] rfl
                have hDc := hD.sb (wq := (wz_110 pr gl fu pa pf sf pk pg pp pz pv pr_reason pr_place pr_scanner_r pr_stepCount pr_open pr_twoSides pr_waiting_r pr_waitingPlaces_r pr_waitingCount)) [1] (by decide) rfl
                have hKc := hK.sb (tyq := []) [] rfl
                have hFc := va_free (wc := (wz_110 pr gl fu pa pf sf pk pg pp pz pv pr_reason pr_place pr_scanner_r pr_stepCount pr_open pr_twoSides pr_waiting_r pr_waitingPlaces_r pr_waitingCount)) hD hS hA [1] rfl
                refine tq_callv (tz_runV (As := [.int 3, .int x2]) (rest := []) ⟨hx, hb, hml, hown, hts⟩ (c_PR_refuse l hlt dC dI H.size sa pr gl fu pa pf sf pk pg pp pz pv pr_scanner_r pr_waiting_r pr_waitingPlaces_r pr_reason pr_place pr_stepCount pr_open pr_twoSides pr_waitingCount 3 x2) (cwV 2 hts (gV kM_CO_105 kV_PR_refuse kS_PR_refuse kI_PR kC_PR_refuse) rfl rfl rfl (by decide +kernel) ⟨Nat.le_of_ble_eq_true rfl, Nat.le_of_ble_eq_true rfl⟩) ⟨fun a U g mk z => by obtain ⟨z0, z1, zP, zK, zD, zS⟩ := z; exact ⟨z0, z1, zP, va_K.moved (u := U) (U := U.calling g mk a) (Vm.Alike.refl U.vm) zK, zD, sw.same (u := U) (U := U.calling g mk a) rfl zS⟩, va_recv hKc hPc (ci := 6) (q0 := 0) rfl rfl, fun U hU hW => ⟨rfl, by rw [hU], va_P.he hU.symm hPc, va_K.moved hW.alike hKc, hDc.weaken (fun _ _ _ _ => trivial), hSW.call hS hFc hW hU⟩⟩ rfl rfl hl.1 rfl (lv_room (Nat.le_of_ble_eq_true rfl)) d_CO_codeStatement_228 ⟨Nat.le_of_ble_eq_true rfl, Nat.le_of_ble_eq_true rfl⟩) hS (fun q _ h => hFc q h) hFc (fun u t H1 locs ht hvm hw hB hz1 hk1 hS => ?_) (fun xx u t H1 locs ht hvm hw hXX hB hz1 hk1 hS => ?_)
                rotate_left
                · skip
                  obtain ⟨n59, n60⟩ := u
                  try dsimp only at hw
                  obtain ⟨hP1, hK1, hD1⟩ := hB
                  replace hP1 := va_P.he ht hP1
                  obtain ⟨hP, hD⟩ := va_join (wr := [(h0, .inr (2, [.ref pr, .ref kn, .ref lt, .int h0_localCount, .ref pe, .int j197_h0_pendingCount, .int h0_gives, .int h0_depth, .int h0_loopDepth, .ref to, .ref bo, .ref cs, .ref se])), (lt, .inl (clt, 50, .inl wlt)), (pe, .inl (cpe, 680, .inl gpe)), (bo, .inr (1, [.ref bob, .int bo_length])), (bob, .inl (cbob, 8192, .inl gbob)), (kn, .inr (5, [.ref tr, .ref kns, .ref knz, .ref knt, .ref knv, .int kn_length])), (kns, .inl (ckns, 50, .inl gkns)), (knz, .inl (cknz, 50, .inl gknz)), (knt, .inl (cknt, 50, .inl gknt)), (knv, .inl (cknv, 50, .inr (.inl gknv))), (tr, .inr (1, [.ref tx, .int tr_length])), (tx, .inl (ctx, 2000, .inl gtx)), (pk, .inl (cpk, 4100, .inl gpk)), (pg, .inl (cpg, 4100, .inr (.inr (.inr (.inr (fun j => (gpg j).map (sg sa))))))), (pp, .inl (cpp, 4100, .inl gpp)), (pz, .inl (cpz, 4100, .inl gpz)), (pv, .inl (cpv, 4100, .inr (.inl gpv))), (gl, .inr (5, [.ref tr, .ref gls, .ref glz, .ref glt, .ref glv, .int gl_length])), (gls, .inl (cgls, 20, .inl ggls)), (glz, .inl (cglz, 20, .inl gglz)), (glt, .inl (cglt, 20, .inl gglt))]) (w1 := (wz_110 pr gl fu pa pf sf pk pg pp pz pv n60 n59 pr_scanner_r pr_stepCount pr_open pr_twoSides pr_waiting_r pr_waitingPlaces_r pr_waitingCount)) hP hD [1] [0, 2, 3, 4, 5, 6, 7, 8, 9, 10, 11, 12, 13, 14, 15, 16, 17, 18, 19, 20, 21] rfl rfl (by decide) (by decide) hk1 hFc hP1 hD1
                  have hP : va_P (dC, dI) cls (wz_201 h0 pr kn lt h0_localCount pe j197_h0_pendingCount h0_gives h0_depth h0_loopDepth to bo cs se lt clt wlt pe cpe gpe bo bob bo_length bob cbob gbob kn tr kns knz knt knv kn_length kns ckns gkns knz cknz gknz knt cknt gknt knv cknv gknv tr tx tr_length tx ctx gtx pk cpk gpk pg cpg (fun j => (gpg j).map (sg sa)) pp cpp gpp pz cpz gpz pv cpv gpv gl tr gls glz glt glv gl_length gls cgls ggls glz cglz gglz glt cglt gglt pr gl fu pa pf sf pk pg pp pz pv n60 n59 pr_scanner_r pr_stepCount pr_open pr_twoSides pr_waiting_r pr_waitingPlaces_r pr_waitingCount) H1 := hP
                  have hD : va_D A (wz_201 h0 pr kn lt h0_localCount pe j197_h0_pendingCount h0_gives h0_depth h0_loopDepth to bo cs se lt clt wlt pe cpe gpe bo bob bo_length bob cbob gbob kn tr kns knz knt knv kn_length kns ckns gkns knz cknz gknz knt cknt gknt knv cknv gknv tr tx tr_length tx ctx gtx pk cpk gpk pg cpg (fun j => (gpg j).map (sg sa)) pp cpp gpp pz cpz gpz pv cpv gpv gl tr gls glz glt glv gl_length gls cgls ggls glz cglz gglz glt cglt gglt pr gl fu pa pf sf pk pg pp pz pv n60 n59 pr_scanner_r pr_stepCount pr_open pr_twoSides pr_waiting_r pr_waitingPlaces_r pr_waitingCount) := hD
                  have hP9 := hP.sb (wq := (wz_195 h0 pr kn lt h0_localCount pe j197_h0_pendingCount h0_gives h0_depth h0_loopDepth to bo cs se pr gl fu pa pf sf pk pg pp pz pv n60 n59 pr_scanner_r pr_stepCount pr_open pr_twoSides pr_waiting_r pr_waitingPlaces_r pr_waitingCount lt clt wlt pe cpe gpe bo bob bo_length bob cbob gbob kn tr kns knz knt knv kn_length kns ckns gkns knz cknz gknz knt cknt gknt knv cknv gknv tr tx tr_length tx ctx gtx pk cpk gpk pg cpg (fun j => (gpg j).map (sg sa)) pp cpp gpp pz cpz gpz pv cpv gpv gl tr gls glz glt glv gl_length gls cgls ggls glz cglz gglz glt cglt gglt)) [0, 21, 1, 2, 3, 4, 5, 6, 7, 8, 9, 10, 11, 12, 13, 14, 15, 16, 17, 18, 19, 20] rfl
                  have hD9 := hD.sb (wq := (wz_195 h0 pr kn lt h0_localCount pe j197_h0_pendingCount h0_gives h0_depth h0_loopDepth to bo cs se pr gl fu pa pf sf pk pg pp pz pv n60 n59 pr_scanner_r pr_stepCount pr_open pr_twoSides pr_waiting_r pr_waitingPlaces_r pr_waitingCount lt clt wlt pe cpe gpe bo bob bo_length bob cbob gbob kn tr kns knz knt knv kn_length kns ckns gkns knz cknz gknz knt cknt gknt knv cknv gknv tr tx tr_length tx ctx gtx pk cpk gpk pg cpg (fun j => (gpg j).map (sg sa)) pp cpp gpp pz cpz gpz pv cpv gpv gl tr gls glz glt glv gl_length gls cgls ggls glz cglz gglz glt cglt gglt)) [0, 21, 1, 2, 3, 4, 5, 6, 7, 8, 9, 10, 11, 12, 13, 14, 15, 16, 17, 18, 19, 20] (by decide) rfl
                  exact tz_leave rfl hno hlocks (fun t ht hW => ⟨⟨(gbob, gkns, gknt, gknv, gknz, wlt, bo_length, h0_localCount, j197_h0_pendingCount, kn_length, n59, n60), ⟨⟨b_bo_length, b_h0_localCount, b_j197_h0_pendingCount, b_kn_length⟩, by rw [ht]; exact hXX.moved hW.alike⟩, va_P.he ht.symm hP9, va_K.moved hW.alike hK, hD9⟩, hS.F ht⟩) hS.2.2
                exact (show False from hw).elim
              · skip
                refine lv_icmp_ne (tgt := 222) hx hb d_CO_codeStatement_205 (by decide) (fun c205 => ?_) (fun c205 => ?_)
                · have q205 := neI c205
                  exact jn222 () _ _ _ ⟨hP, hD, hS, lv_sub hl [1, 2] rfl⟩
                · have q205 := eqI c205
                  refine lv_iload hx hb d_CO_codeStatement_208 (lv_at hl 3 rfl) ?_
                  refine w_cut (pc2 := 231) (σ := Unit) (fun u H locs ls => match u with | _ => (j197_s0.toInt = h0_gives.toInt ∧ (j181_s0 = 1 → h0_gives.toInt ≠ 64)) ∧ va_P (dC, dI) cls (wz_195 h0 pr kn lt h0_localCount pe j197_h0_pendingCount h0_gives h0_depth h0_loopDepth to bo cs se pr gl fu pa pf sf pk pg pp pz pv pr_reason pr_place pr_scanner_r pr_stepCount pr_open pr_twoSides pr_waiting_r pr_waitingPlaces_r pr_waitingCount lt clt wlt pe cpe gpe bo bob bo_length bob cbob gbob kn tr kns knz knt knv kn_length kns ckns gkns knz cknz gknz knt cknt gknt knv cknv gknv tr tx tr_length tx ctx gtx pk cpk gpk pg cpg (fun j => (gpg j).map (sg sa)) pp cpp gpp pz cpz gpz pv cpv gpv gl tr gls glz glt glv gl_length gls cgls ggls glz cglz gglz glt cglt gglt) H ∧ va_D A (wz_195 h0 pr kn lt h0_localCount pe j197_h0_pendingCount h0_gives h0_depth h0_loopDepth to bo cs se pr gl fu pa pf sf pk pg pp pz pv pr_reason pr_place pr_scanner_r pr_stepCount pr_open pr_twoSides pr_waiting_r pr_waitingPlaces_r pr_waitingCount lt clt wlt pe cpe gpe bo bob bo_length bob cbob gbob kn tr kns knz knt knv kn_length kns ckns gkns knz cknz gknz knt cknt gknt knv cknv gknv tr tx tr_length tx ctx gtx pk cpk gpk pg cpg (fun j => (gpg j).map (sg sa)) pp cpp gpp pz cpz gpz pv cpv gpv gl tr gls glz glt glv gl_length gls cgls ggls glz cglz gglz glt cglt gglt) ∧ va_S A s.heap H locs ∧ lv_has ls 6 [(0, .ref h0)]) (fun u => match u with | _ => []) ?_ (fun jn231 => ?_)
                  · intro u H locs ls hI
                    obtain ⟨y231, hP, hD, hS, hl⟩ := hI
                    refine lv_aload_n hx hb d_CO_codeStatement_231 rfl (lv_at hl 0 rfl) ?_
                    refine va_get (D := (dC, dI)) (ci := 2) (v := .ref bo) (C := R_CO) (T := F_CO) (N := 13) hx hb hts i_CO hown hK hP 0 rfl rfl 10 (by decide) (hts _ kF_CO_26) (fun _ h9 => h9) rfl d_CO_codeStatement_232 ?_
                    refine lv_bipush (v := 15) hx hb d_CO_codeStatement_235 (by decide) ?_
                    have hPc := hP.sb (wq := (wz_94 bo bob bo_length bob cbob gbob)) [4, 5] rfl
                    have hDc := hD.sb (wq := (wz_94 bo bob bo_length bob cbob gbob)) [4, 5] (by decide) rfl
                    have hKc := hK.sb (tyq := [(cbob, .byte)]) [2] rfl
                    have hFc := va_free (wc := (wz_94 bo bob bo_length bob cbob gbob)) hD hS hA [4, 5] rfl
                    refine va_callv (va_runV (As := [.int 15]) (rest := []) ⟨hx, hb, hml, hown, hts⟩ (c_BR_put l dC dI bo bob H.size cbob 8192 bo_length gbob (by (first | (apply Int.le_antisymm <;> omega) | omega)) (by (first | (apply Int.le_antisymm <;> omega) | omega)) (by (first | (apply Int.le_antisymm <;> omega) | omega)) 15) (cwV 1 hts (gV kM_CO_76 kV_BR_put kS_BR_put kI_BR kC_BR_put) rfl rfl rfl (by decide +kernel) ⟨Nat.le_of_ble_eq_true rfl, Nat.le_of_ble_eq_true rfl⟩) ⟨fun a U g mk z => by obtain ⟨z0, z1, zP, zK, zD⟩ := z; exact ⟨z0, z1, zP, va_K.moved (u := U) (U := U.calling g mk a) (Vm.Alike.refl U.vm) zK, zD⟩, va_recv hKc hPc (ci := 1) (q0 := 0) rfl rfl, fun U hU hW => ⟨rfl, by rw [hU], va_P.he hU.symm hPc, va_K.moved hW.alike hKc, hDc.weaken (fun _ _ _ _ => trivial)⟩⟩ rfl rfl hl.1 rfl (lv_room (Nat.le_of_ble_eq_true rfl)) d_CO_codeStatement_237 ⟨(Nat.zero_le _), (Nat.zero_le _)⟩) hS (fun q _ h => hFc q h) hFc (fun u t H1 locs ht hvm hw hB hz1 hk1 hS => ?_)
                    obtain ⟨n62, f63⟩ := u
                    try dsimp only at hw
                    have tn62 := br_put_in (by (first | (apply Int.le_antisymm <;> omega) | omega)) (by (first | (apply Int.le_antisymm <;> omega) | omega)) (by (first | (apply Int.le_antisymm <;> omega) | omega)) hw
                    have bn62 := br_put_bl (by (first | (apply Int.le_antisymm <;> omega) | omega)) (by (first | (apply Int.le_antisymm <;> omega) | omega)) (by (first | (apply Int.le_antisymm <;> omega) | omega)) hw
                    obtain ⟨hP1, hK1, hD1⟩ := hB
                    replace hP1 := va_P.he ht hP1
                    obtain ⟨hP, hD⟩ := va_join (wr := (wz_202 h0 pr kn lt h0_localCount pe j197_h0_pendingCount h0_gives h0_depth h0_loopDepth to bo cs se pr gl fu pa pf sf pk pg pp pz pv pr_reason pr_place pr_scanner_r pr_stepCount pr_open pr_twoSides pr_waiting_r pr_waitingPlaces_r pr_waitingCount lt clt wlt pe cpe gpe kn tr kns knz knt knv kn_length kns ckns gkns knz cknz gknz knt cknt gknt knv cknv gknv tr tx tr_length tx ctx gtx pk cpk gpk pg cpg (fun j => (gpg j).map (sg sa)) pp cpp gpp pz cpz gpz pv cpv gpv gl tr gls glz glt glv gl_length gls cgls ggls glz cglz gglz glt cglt gglt)) (w1 := (wz_94 bo bob n62 bob cbob f63)) hP hD [4, 5] [0, 1, 2, 3, 6, 7, 8, 9, 10, 11, 12, 13, 14, 15, 16, 17, 18, 19, 20, 21] rfl rfl (by decide) (by decide) hk1 hFc hP1 hD1
                    clear hPc hDc hKc hFc hz1 hk1 hP1 hK1 hD1
                    rename Heap => H
                    have hP : va_P (dC, dI) cls (wz_203 h0 pr kn lt h0_localCount pe j197_h0_pendingCount h0_gives h0_depth h0_loopDepth to bo cs se pr gl fu pa pf sf pk pg pp pz pv pr_reason pr_place pr_scanner_r pr_stepCount pr_open pr_twoSides pr_waiting_r pr_waitingPlaces_r pr_waitingCount lt clt wlt pe cpe gpe kn tr kns knz knt knv kn_length kns ckns gkns knz cknz gknz knt cknt gknt knv cknv gknv tr tx tr_length tx ctx gtx pk cpk gpk pg cpg (fun j => (gpg j).map (sg sa)) pp cpp gpp pz cpz gpz pv cpv gpv gl tr gls glz glt glv gl_length gls cgls ggls glz cglz gglz glt cglt gglt bo bob n62 bob cbob f63) H := hP
                    have hD : va_D A (wz_203 h0 pr kn lt h0_localCount pe j197_h0_pendingCount h0_gives h0_depth h0_loopDepth to bo cs se pr gl fu pa pf sf pk pg pp pz pv pr_reason pr_place pr_scanner_r pr_stepCount pr_open pr_twoSides pr_waiting_r pr_waitingPlaces_r pr_waitingCount lt clt wlt pe cpe gpe kn tr kns knz knt knv kn_length kns ckns gkns knz cknz gknz knt cknt gknt knv cknv gknv tr tx tr_length tx ctx gtx pk cpk gpk pg cpg (fun j => (gpg j).map (sg sa)) pp cpp gpp pz cpz gpz pv cpv gpv gl tr gls glz glt glv gl_length gls cgls ggls glz cglz gglz glt cglt gglt bo bob n62 bob cbob f63) := hD
                    refine lv_goto (tgt := 298) hx hb d_CO_codeStatement_240 (by decide) ?_
                    have hP9 := hP.sb (wq := (wz_195 h0 pr kn lt h0_localCount pe j197_h0_pendingCount h0_gives h0_depth h0_loopDepth to bo cs se pr gl fu pa pf sf pk pg pp pz pv pr_reason pr_place pr_scanner_r pr_stepCount pr_open pr_twoSides pr_waiting_r pr_waitingPlaces_r pr_waitingCount lt clt wlt pe cpe gpe bo bob n62 bob cbob f63 kn tr kns knz knt knv kn_length kns ckns gkns knz cknz gknz knt cknt gknt knv cknv gknv tr tx tr_length tx ctx gtx pk cpk gpk pg cpg (fun j => (gpg j).map (sg sa)) pp cpp gpp pz cpz gpz pv cpv gpv gl tr gls glz glt glv gl_length gls cgls ggls glz cglz gglz glt cglt gglt)) [0, 1, 2, 3, 20, 21, 4, 5, 6, 7, 8, 9, 10, 11, 12, 13, 14, 15, 16, 17, 18, 19] rfl
                    have hD9 := hD.sb (wq := (wz_195 h0 pr kn lt h0_localCount pe j197_h0_pendingCount h0_gives h0_depth h0_loopDepth to bo cs se pr gl fu pa pf sf pk pg pp pz pv pr_reason pr_place pr_scanner_r pr_stepCount pr_open pr_twoSides pr_waiting_r pr_waitingPlaces_r pr_waitingCount lt clt wlt pe cpe gpe bo bob n62 bob cbob f63 kn tr kns knz knt knv kn_length kns ckns gkns knz cknz gknz knt cknt gknt knv cknv gknv tr tx tr_length tx ctx gtx pk cpk gpk pg cpg (fun j => (gpg j).map (sg sa)) pp cpp gpp pz cpz gpz pv cpv gpv gl tr gls glz glt glv gl_length gls cgls ggls glz cglz gglz glt cglt gglt)) [0, 1, 2, 3, 20, 21, 4, 5, 6, 7, 8, 9, 10, 11, 12, 13, 14, 15, 16, 17, 18, 19] (by decide) rfl
                    exact tz_up (fun _ => rfl) (W.vret hx hb hr (fun t ht hW => ⟨⟨(f63, gkns, gknt, gknv, gknz, wlt, n62, h0_localCount, j197_h0_pendingCount, kn_length, pr_place, pr_reason), ⟨rfl, ⟨by (try dsimp only) <;> (first | (apply Int.le_antisymm <;> omega) | omega), b_h0_localCount, b_j197_h0_pendingCount, b_kn_length, ⟨by (try dsimp only); have hI := hI.out; have hbl : bl f63 n62.toNatClampNeg = bl gbob bo_length.toNatClampNeg ++ [15] := (by rw [bn62 (by (first | (apply Int.le_antisymm <;> omega) | omega))]; rfl); rw [hbl, ec]; rcases y197 with ⟨z1, z2, z3⟩ | ⟨z1, z2, z3⟩; (have e9 : gS = 0 :: gS2 := by rcases eS with z | z; (exfalso; rcases y181 with w | w; exact w.2 z.1; (rw [w.1] at z1; exact absurd z1 (by decide))); exact z.2); (rw [e9, pl_s (n := h0_pendingCount.toNatClampNeg) (m := j197_h0_pendingCount.toNatClampNeg) (by have := i32_clamp (x := j197_h0_pendingCount) (by (first | (apply Int.le_antisymm <;> omega) | omega)); (first | (apply Int.le_antisymm <;> omega) | omega))] at hI; exact cI_ret hI (by rw [← z3]; have := y231.2 z1; (first | (apply Int.le_antisymm <;> omega) | omega))); (have e9 : gS = gS2 := by rcases eS with z | z; exact z.2; (exfalso; rcases y181 with w | w; (rw [w.1] at z1; exact absurd z1 (by decide)); exact z.1 w.2)); (rw [e9, show h0_pendingCount.toNatClampNeg = j197_h0_pendingCount.toNatClampNeg from by have := i32_clamp (x := j197_h0_pendingCount) (by (first | (apply Int.le_antisymm <;> omega) | omega)); (first | (apply Int.le_antisymm <;> omega) | omega)] at hI; exact cI_dead (op := 15) (v := 0) hI (Or.inr rfl) (by decide) (by simp) (by simp [iok, two])), hkq.out, by (try dsimp only) <;> (first | (apply Int.le_antisymm <;> omega) | omega), hlq.out, by (try dsimp only) <;> (first | (apply Int.le_antisymm <;> omega) | omega)⟩⟩⟩, va_P.he ht.symm hP9, va_K.moved hW.alike hK, hD9⟩, hS.F ht⟩) hS.2.2 d_CO_codeStatement_298)
                  · skip
                    refine lv_if_eq (tgt := 231) hx hb d_CO_codeStatement_210 (by decide) (fun c210 => ?_) (fun c210 => ?_)
                    · have q210 := eqI c210
                      exact jn231 () _ _ _ ⟨⟨by (first | (apply Int.le_antisymm <;> omega) | omega), fun z => absurd (z.symm.trans c210) (by decide)⟩, hP, hD, hS, lv_sub hl [1] rfl⟩
                    · have q210 := neI c210
                      refine lv_aload_n hx hb d_CO_codeStatement_213 rfl (lv_at hl 1 rfl) ?_
                      refine va_get (D := (dC, dI)) (ci := 2) (v := .int h0_gives) (C := R_CO) (T := F_CO) (N := 13) hx hb hts i_CO hown hK hP 0 rfl rfl 6 (by decide) (hts _ kF_CO_124) (fun _ h9 => h9) rfl d_CO_codeStatement_214 ?_
                      refine lv_bipush (v := 64) hx hb d_CO_codeStatement_217 (by decide) ?_
                      refine lv_icmp_ne (tgt := 231) hx hb d_CO_codeStatement_219 (by decide) (fun c219 => ?_) (fun c219 => ?_)
                      · have q219 := neI c219
                        exact jn231 () _ _ _ ⟨⟨by (first | (apply Int.le_antisymm <;> omega) | omega), fun _ => by (first | (apply Int.le_antisymm <;> omega) | omega)⟩, hP, hD, hS, lv_sub hl [1] rfl⟩
                      · have q219 := eqI c219
                        exact jn222 () _ _ _ ⟨hP, hD, hS, lv_sub hl [1, 2] rfl⟩
            · skip
              refine lv_if_eq (tgt := 195) hx hb d_CO_codeStatement_185 (by decide) (fun c185 => ?_) (fun c185 => ?_)
              · have q185 := eqI c185
                refine lv_bipush (v := 64) hx hb d_CO_codeStatement_195 (by decide) ?_
                exact jn197 (64, h0_pendingCount) _ _ _ ⟨b_h0_pendingCount, Or.inr ⟨c185, rfl, by decide⟩, hP, hD, hS, lv_sub hl [1, 2, 0] rfl⟩
              · have q185 := neI c185
                have k188 : gS = 0 :: gS2 := by rcases eS with z | z; (exfalso; rcases y181 with w | w; exact w.2 z.1; (rw [w.1] at q185; exact q185 rfl)); exact z.2
                have q1 := hI.out.1
                rw [k188] at q1
                have q1 := cJ_pos q1 (by decide)
                refine lv_aload_n hx hb d_CO_codeStatement_188 rfl (lv_at hl 1 rfl) ?_
                have hPc := hP.sb (wq := (wz_149 h0 pr kn lt h0_localCount pe h0_pendingCount h0_gives h0_depth h0_loopDepth to bo cs se pe cpe gpe)) [0, 3] rfl
                have hDc := hD.sb (wq := (wz_149 h0 pr kn lt h0_localCount pe h0_pendingCount h0_gives h0_depth h0_loopDepth to bo cs se pe cpe gpe)) [0, 3] (by decide) rfl
                have hKc := hK.sb (tyq := [(cpe, .int)]) [1] rfl
                have hFc := va_free (wc := (wz_149 h0 pr kn lt h0_localCount pe h0_pendingCount h0_gives h0_depth h0_loopDepth to bo cs se pe cpe gpe)) hD hS hA [0, 3] rfl
                refine va_calli (va_runV (As := []) (rest := []) ⟨hx, hb, hml, hown, hts⟩ (c_CO_pop l dC dI H.size h0 pr kn lt pe to bo cs se cpe h0_localCount h0_pendingCount h0_gives h0_depth h0_loopDepth gpe (b_h0_pendingCount) (by (first | (apply Int.le_antisymm <;> omega) | omega))) (cwV 0 hts (gV kM_CO_224 kV_CO_pop kS_CO_pop kI_CO kC_CO_pop) rfl rfl rfl (by decide +kernel) ⟨Nat.le_of_ble_eq_true rfl, Nat.le_of_ble_eq_true rfl⟩) ⟨fun a U g mk z => by obtain ⟨z0, z1, zP, zK, zD⟩ := z; exact ⟨z0, z1, zP, va_K.moved (u := U) (U := U.calling g mk a) (Vm.Alike.refl U.vm) zK, zD⟩, va_recv hKc hPc (ci := 2) (q0 := 0) rfl rfl, fun U hU hW => ⟨rfl, by rw [hU], va_P.he hU.symm hPc, va_K.moved hW.alike hKc, hDc.weaken (fun _ _ _ _ => trivial)⟩⟩ rfl rfl hl.1 rfl (lv_room (Nat.le_of_ble_eq_true rfl)) d_CO_codeStatement_189 ⟨(Nat.zero_le _), (Nat.zero_le _)⟩) hS (fun q _ h => hFc q h) hFc (fun r64 u t H1 locs ht hvm hw hB hz1 hk1 hS => ?_)
                obtain ⟨n65, rfl⟩ : ∃ z, z = u := ⟨_, rfl⟩
                try dsimp only at hw
                obtain ⟨bn65, xr64⟩ := hw
                try clear hw
                obtain ⟨hP1, hK1, hD1⟩ := hB
                replace hP1 := va_P.he ht hP1
                obtain ⟨hP, hD⟩ := va_join (wr := (wz_196 pr gl fu pa pf sf pk pg pp pz pv pr_reason pr_place pr_scanner_r pr_stepCount pr_open pr_twoSides pr_waiting_r pr_waitingPlaces_r pr_waitingCount lt clt wlt bo bob bo_length bob cbob gbob kn tr kns knz knt knv kn_length kns ckns gkns knz cknz gknz knt cknt gknt knv cknv gknv tr tx tr_length tx ctx gtx pk cpk gpk pg cpg (fun j => (gpg j).map (sg sa)) pp cpp gpp pz cpz gpz pv cpv gpv gl tr gls glz glt glv gl_length gls cgls ggls glz cglz gglz glt cglt gglt)) (w1 := (wz_149 h0 pr kn lt h0_localCount pe n65 h0_gives h0_depth h0_loopDepth to bo cs se pe cpe gpe)) hP hD [0, 3] [1, 2, 4, 5, 6, 7, 8, 9, 10, 11, 12, 13, 14, 15, 16, 17, 18, 19, 20, 21] rfl rfl (by decide) (by decide) hk1 hFc hP1 hD1
                clear hPc hDc hKc hFc hz1 hk1 hP1 hK1 hD1
                rename Heap => H
                have hP : va_P (dC, dI) cls (wz_197 pr gl fu pa pf sf pk pg pp pz pv pr_reason pr_place pr_scanner_r pr_stepCount pr_open pr_twoSides pr_waiting_r pr_waitingPlaces_r pr_waitingCount lt clt wlt bo bob bo_length bob cbob gbob kn tr kns knz knt knv kn_length kns ckns gkns knz cknz gknz knt cknt gknt knv cknv gknv tr tx tr_length tx ctx gtx pk cpk gpk pg cpg (fun j => (gpg j).map (sg sa)) pp cpp gpp pz cpz gpz pv cpv gpv gl tr gls glz glt glv gl_length gls cgls ggls glz cglz gglz glt cglt gglt h0 pr kn lt h0_localCount pe n65 h0_gives h0_depth h0_loopDepth to bo cs se pe cpe gpe) H := hP
                have hD : va_D A (wz_197 pr gl fu pa pf sf pk pg pp pz pv pr_reason pr_place pr_scanner_r pr_stepCount pr_open pr_twoSides pr_waiting_r pr_waitingPlaces_r pr_waitingCount lt clt wlt bo bob bo_length bob cbob gbob kn tr kns knz knt knv kn_length kns ckns gkns knz cknz gknz knt cknt gknt knv cknv gknv tr tx tr_length tx ctx gtx pk cpk gpk pg cpg (fun j => (gpg j).map (sg sa)) pp cpp gpp pz cpz gpz pv cpv gpv gl tr gls glz glt glv gl_length gls cgls ggls glz cglz gglz glt cglt gglt h0 pr kn lt h0_localCount pe n65 h0_gives h0_depth h0_loopDepth to bo cs se pe cpe gpe) := hD
                refine lv_goto (tgt := 197) hx hb d_CO_codeStatement_192 (by decide) ?_
                exact jn197 (r64, n65) _ _ _ ⟨bn65, Or.inl ⟨by rcases y181 with w | w; exact w.1; (exfalso; rw [w.1] at q185; exact q185 rfl), xr64.1, xr64.2⟩, hP.sub [20, 0, 1, 21, 2, 3, 4, 5, 6, 7, 8, 9, 10, 11, 12, 13, 14, 15, 16, 17, 18, 19] rfl, hD.sub [20, 0, 1, 21, 2, 3, 4, 5, 6, 7, 8, 9, 10, 11, 12, 13, 14, 15, 16, 17, 18, 19] (by decide) rfl, hS, lv_sub hl [1, 2, 0] rfl⟩
          · skip
            refine lv_if_eq (tgt := 180) hx hb d_CO_codeStatement_173 (by decide) (fun c173 => ?_) (fun c173 => ?_)
            · have q173 := eqI c173
              refine lv_iconst (v := 0) hx hb d_CO_codeStatement_180 (by decide) ?_
              exact jn181 0 _ _ _ ⟨Or.inl rfl, Or.inr ⟨rfl, by rw [← ex56]; exact Int64.toInt_inj.mp (by (first | (apply Int.le_antisymm <;> omega) | omega))⟩, hP, hD, hS, lv_sub hl [2, 0] rfl⟩
            · have q173 := neI c173
              refine lv_iconst (v := 1) hx hb d_CO_codeStatement_176 (by decide) ?_
              refine lv_goto (tgt := 181) hx hb d_CO_codeStatement_177 (by decide) ?_
              exact jn181 1 _ _ _ ⟨Or.inr rfl, Or.inl ⟨rfl, fun z => by rw [← ex56] at z; have := congrArg Int64.toInt z; (first | (apply Int.le_antisymm <;> omega) | omega)⟩, hP, hD, hS, lv_sub hl [2, 0] rfl⟩
        · skip
          have ho29 : tab_off 214 8 11 #[31, 104, 112, 133] x3.toInt = 214 := by
            unfold tab_off
            split
            · rfl
            · exfalso; (first | (apply Int.le_antisymm <;> omega) | omega)
          refine lv_tab (tgt := 243) hx hb d_CO_codeStatement_29 (by decide) ho29 (by decide) ?_
          clear ho29
          have h9 : (gpk p0.toNatClampNeg).toInt = 12 := by rw [← ex3]; (first | (apply Int.le_antisymm <;> omega) | omega)
          have s9 := sI_12 hs.out h9
          obtain ⟨s121, ec, eS⟩ := s9
          refine lv_aload_n hx hb d_CO_codeStatement_243 rfl (lv_at hl 2 rfl) ?_
          refine va_get (D := (dC, dI)) (ci := 2) (v := .int h0_loopDepth) (C := R_CO) (T := F_CO) (N := 13) hx hb hts i_CO hown hK hP 0 rfl rfl 8 (by decide) (hts _ kF_CO_118) (fun _ h9 => h9) rfl d_CO_codeStatement_244 ?_
          refine lv_if_ne (tgt := 260) hx hb d_CO_codeStatement_247 (by decide) (fun c247 => ?_) (fun c247 => ?_)
          · have q247 := neI c247
            refine lv_aload_n hx hb d_CO_codeStatement_260 rfl (lv_at hl 2 rfl) ?_
            refine va_get (D := (dC, dI)) (ci := 2) (v := .ref bo) (C := R_CO) (T := F_CO) (N := 13) hx hb hts i_CO hown hK hP 0 rfl rfl 10 (by decide) (hts _ kF_CO_26) (fun _ h9 => h9) rfl d_CO_codeStatement_261 ?_
            refine lv_bipush (v := 12) hx hb d_CO_codeStatement_264 (by decide) ?_
            have hPc := hP.sb (wq := (wz_94 bo bob bo_length bob cbob gbob)) [4, 5] rfl
            have hDc := hD.sb (wq := (wz_94 bo bob bo_length bob cbob gbob)) [4, 5] (by decide) rfl
            have hKc := hK.sb (tyq := [(cbob, .byte)]) [2] rfl
            have hFc := va_free (wc := (wz_94 bo bob bo_length bob cbob gbob)) hD hS hA [4, 5] rfl
            refine va_callv (va_runV (As := [.int 12]) (rest := []) ⟨hx, hb, hml, hown, hts⟩ (c_BR_put l dC dI bo bob H.size cbob 8192 bo_length gbob (by (first | (apply Int.le_antisymm <;> omega) | omega)) (by (first | (apply Int.le_antisymm <;> omega) | omega)) (by (first | (apply Int.le_antisymm <;> omega) | omega)) 12) (cwV 1 hts (gV kM_CO_76 kV_BR_put kS_BR_put kI_BR kC_BR_put) rfl rfl rfl (by decide +kernel) ⟨Nat.le_of_ble_eq_true rfl, Nat.le_of_ble_eq_true rfl⟩) ⟨fun a U g mk z => by obtain ⟨z0, z1, zP, zK, zD⟩ := z; exact ⟨z0, z1, zP, va_K.moved (u := U) (U := U.calling g mk a) (Vm.Alike.refl U.vm) zK, zD⟩, va_recv hKc hPc (ci := 1) (q0 := 0) rfl rfl, fun U hU hW => ⟨rfl, by rw [hU], va_P.he hU.symm hPc, va_K.moved hW.alike hKc, hDc.weaken (fun _ _ _ _ => trivial)⟩⟩ rfl rfl hl.1 rfl (lv_room (Nat.le_of_ble_eq_true rfl)) d_CO_codeStatement_266 ⟨(Nat.zero_le _), (Nat.zero_le _)⟩) hS (fun q _ h => hFc q h) hFc (fun u t H1 locs ht hvm hw hB hz1 hk1 hS => ?_)
            obtain ⟨n67, f68⟩ := u
            try dsimp only at hw
            have tn67 := br_put_in (by (first | (apply Int.le_antisymm <;> omega) | omega)) (by (first | (apply Int.le_antisymm <;> omega) | omega)) (by (first | (apply Int.le_antisymm <;> omega) | omega)) hw
            have bn67 := br_put_bl (by (first | (apply Int.le_antisymm <;> omega) | omega)) (by (first | (apply Int.le_antisymm <;> omega) | omega)) (by (first | (apply Int.le_antisymm <;> omega) | omega)) hw
            obtain ⟨hP1, hK1, hD1⟩ := hB
            replace hP1 := va_P.he ht hP1
            obtain ⟨hP, hD⟩ := va_join (wr := (wz_202 h0 pr kn lt h0_localCount pe h0_pendingCount h0_gives h0_depth h0_loopDepth to bo cs se pr gl fu pa pf sf pk pg pp pz pv pr_reason pr_place pr_scanner_r pr_stepCount pr_open pr_twoSides pr_waiting_r pr_waitingPlaces_r pr_waitingCount lt clt wlt pe cpe gpe kn tr kns knz knt knv kn_length kns ckns gkns knz cknz gknz knt cknt gknt knv cknv gknv tr tx tr_length tx ctx gtx pk cpk gpk pg cpg (fun j => (gpg j).map (sg sa)) pp cpp gpp pz cpz gpz pv cpv gpv gl tr gls glz glt glv gl_length gls cgls ggls glz cglz gglz glt cglt gglt)) (w1 := (wz_94 bo bob n67 bob cbob f68)) hP hD [4, 5] [0, 1, 2, 3, 6, 7, 8, 9, 10, 11, 12, 13, 14, 15, 16, 17, 18, 19, 20, 21] rfl rfl (by decide) (by decide) hk1 hFc hP1 hD1
            clear hPc hDc hKc hFc hz1 hk1 hP1 hK1 hD1
            rename Heap => H
            have hP : va_P (dC, dI) cls (wz_203 h0 pr kn lt h0_localCount pe h0_pendingCount h0_gives h0_depth h0_loopDepth to bo cs se pr gl fu pa pf sf pk pg pp pz pv pr_reason pr_place pr_scanner_r pr_stepCount pr_open pr_twoSides pr_waiting_r pr_waitingPlaces_r pr_waitingCount lt clt wlt pe cpe gpe kn tr kns knz knt knv kn_length kns ckns gkns knz cknz gknz knt cknt gknt knv cknv gknv tr tx tr_length tx ctx gtx pk cpk gpk pg cpg (fun j => (gpg j).map (sg sa)) pp cpp gpp pz cpz gpz pv cpv gpv gl tr gls glz glt glv gl_length gls cgls ggls glz cglz gglz glt cglt gglt bo bob n67 bob cbob f68) H := hP
            have hD : va_D A (wz_203 h0 pr kn lt h0_localCount pe h0_pendingCount h0_gives h0_depth h0_loopDepth to bo cs se pr gl fu pa pf sf pk pg pp pz pv pr_reason pr_place pr_scanner_r pr_stepCount pr_open pr_twoSides pr_waiting_r pr_waitingPlaces_r pr_waitingCount lt clt wlt pe cpe gpe kn tr kns knz knt knv kn_length kns ckns gkns knz cknz gknz knt cknt gknt knv cknv gknv tr tx tr_length tx ctx gtx pk cpk gpk pg cpg (fun j => (gpg j).map (sg sa)) pp cpp gpp pz cpz gpz pv cpv gpv gl tr gls glz glt glv gl_length gls cgls ggls glz cglz gglz glt cglt gglt bo bob n67 bob cbob f68) := hD
            refine lv_aload_n hx hb d_CO_codeStatement_269 rfl (lv_at hl 2 rfl) ?_
            refine va_get (D := (dC, dI)) (ci := 2) (v := .ref bo) (C := R_CO) (T := F_CO) (N := 13) hx hb hts i_CO hown hK hP 0 rfl rfl 10 (by decide) (hts _ kF_CO_26) (fun _ h9 => h9) rfl d_CO_codeStatement_270 ?_
            refine lv_aload_n hx hb d_CO_codeStatement_273 rfl (lv_at hl 2 rfl) ?_
            refine va_get (D := (dC, dI)) (ci := 2) (v := .int h0_depth) (C := R_CO) (T := F_CO) (N := 13) hx hb hts i_CO hown hK hP 0 rfl rfl 7 (by decide) (hts _ kF_CO_115) (fun _ h9 => h9) rfl d_CO_codeStatement_274 ?_
            refine lv_aload_n hx hb d_CO_codeStatement_277 rfl (lv_at hl 2 rfl) ?_
            refine va_get (D := (dC, dI)) (ci := 2) (v := .int h0_loopDepth) (C := R_CO) (T := F_CO) (N := 13) hx hb hts i_CO hown hK hP 0 rfl rfl 8 (by decide) (hts _ kF_CO_118) (fun _ h9 => h9) rfl d_CO_codeStatement_278 ?_
            refine lv_isub hx hb d_CO_codeStatement_281 ?_
            refine lv_topi (fun x69 ex69 => ?_)
            have tx69 : x69.toInt = h0_depth.toInt - h0_loopDepth.toInt := by have z := i32_sub ex69 (by (first | (apply Int.le_antisymm <;> omega) | omega)) (by (first | (apply Int.le_antisymm <;> omega) | omega)); first | exact z | (first | (apply Int.le_antisymm <;> omega) | omega)
            refine lv_aload_n hx hb d_CO_codeStatement_282 rfl (lv_at hl 1 rfl) ?_
            refine va_gets (C := "WaferForge$Sign") (n := "BREAK") (d := "LWaferForge$Sign;") (v := .ref (sg sa 11)) hx hb ((hSW.2.2.2.1.1 11 (by decide)).1) hS hown (hts _ kF_CO_276) (fun _ h9 => h9) d_CO_codeStatement_283 ?_
            refine w_cut (pc2 := 294) (σ := Int32) (fun u H locs ls => match u with | j294_s0 => (j294_s0 = 0 ∨ j294_s0 = 1) ∧ (0 ≤ j294_s0.toInt ∧ j294_s0.toInt ≤ 1) ∧ va_P (dC, dI) cls (wz_203 h0 pr kn lt h0_localCount pe h0_pendingCount h0_gives h0_depth h0_loopDepth to bo cs se pr gl fu pa pf sf pk pg pp pz pv pr_reason pr_place pr_scanner_r pr_stepCount pr_open pr_twoSides pr_waiting_r pr_waitingPlaces_r pr_waitingCount lt clt wlt pe cpe gpe kn tr kns knz knt knv kn_length kns ckns gkns knz cknz gknz knt cknt gknt knv cknv gknv tr tx tr_length tx ctx gtx pk cpk gpk pg cpg (fun j => (gpg j).map (sg sa)) pp cpp gpp pz cpz gpz pv cpv gpv gl tr gls glz glt glv gl_length gls cgls ggls glz cglz gglz glt cglt gglt bo bob n67 bob cbob f68) H ∧ va_D A (wz_203 h0 pr kn lt h0_localCount pe h0_pendingCount h0_gives h0_depth h0_loopDepth to bo cs se pr gl fu pa pf sf pk pg pp pz pv pr_reason pr_place pr_scanner_r pr_stepCount pr_open pr_twoSides pr_waiting_r pr_waitingPlaces_r pr_waitingCount lt clt wlt pe cpe gpe kn tr kns knz knt knv kn_length kns ckns gkns knz cknz gknz knt cknt gknt knv cknv gknv tr tx tr_length tx ctx gtx pk cpk gpk pg cpg (fun j => (gpg j).map (sg sa)) pp cpp gpp pz cpz gpz pv cpv gpv gl tr gls glz glt glv gl_length gls cgls ggls glz cglz gglz glt cglt gglt bo bob n67 bob cbob f68) ∧ va_S A s.heap H locs ∧ lv_has ls 6 []) (fun u => match u with | j294_s0 => [.int j294_s0, .int x69, .ref bo]) ?_ (fun jn294 => ?_)
            · intro u H locs ls hI
              obtain ⟨j294_s0, rfl⟩ : ∃ z, z = u := ⟨_, rfl⟩
              obtain ⟨b_j294_s0, y294, hP, hD, hS, hl⟩ := hI
              have tj294_s0 := b01 b_j294_s0
              refine lv_iadd hx hb d_CO_codeStatement_294 ?_
              refine lv_topi (fun x70 ex70 => ?_)
              have tx70 : x70.toInt = x69.toInt + j294_s0.toInt := by have z := i32_add ex70 (by (first | (apply Int.le_antisymm <;> omega) | omega)) (by (first | (apply Int.le_antisymm <;> omega) | omega)); first | exact z | (first | (apply Int.le_antisymm <;> omega) | omega)
              have hPc := hP.sb (wq := (wz_94 bo bob n67 bob cbob f68)) [20, 21] rfl
              have hDc := hD.sb (wq := (wz_94 bo bob n67 bob cbob f68)) [20, 21] (by decide) rfl
              have hKc := hK.sb (tyq := [(cbob, .byte)]) [2] rfl
              have hFc := va_free (wc := (wz_94 bo bob n67 bob cbob f68)) hD hS hA [20, 21] rfl
              refine va_callv (va_runV (As := [.int x70]) (rest := []) ⟨hx, hb, hml, hown, hts⟩ (c_BR_putUnsigned l dC dI bo bob H.size cbob 8192 n67 f68 (by (first | (apply Int.le_antisymm <;> omega) | omega)) (by (first | (apply Int.le_antisymm <;> omega) | omega)) (by (first | (apply Int.le_antisymm <;> omega) | omega)) x70 (by (first | (apply Int.le_antisymm <;> omega) | omega))) (cwV 1 hts (gV kM_CO_218 kV_BR_putUnsigned kS_BR_putUnsigned kI_BR kC_BR_putUnsigned) rfl rfl rfl (by decide +kernel) ⟨Nat.le_of_ble_eq_true rfl, Nat.le_of_ble_eq_true rfl⟩) ⟨fun a U g mk z => by obtain ⟨z0, z1, zP, zK, zD⟩ := z; exact ⟨z0, z1, zP, va_K.moved (u := U) (U := U.calling g mk a) (Vm.Alike.refl U.vm) zK, zD⟩, va_recv hKc hPc (ci := 1) (q0 := 0) rfl rfl, fun U hU hW => ⟨rfl, by rw [hU], va_P.he hU.symm hPc, va_K.moved hW.alike hKc, hDc.weaken (fun _ _ _ _ => trivial)⟩⟩ rfl rfl hl.1 rfl (lv_room (Nat.le_of_ble_eq_true rfl)) d_CO_codeStatement_295 ⟨(Nat.zero_le _), (Nat.zero_le _)⟩) hS (fun q _ h => hFc q h) hFc (fun u t H1 locs ht hvm hw hB hz1 hk1 hS => ?_)
              obtain ⟨n72, f73⟩ := u
              try dsimp only at hw
              obtain ⟨tn72, bn72⟩ := hw
              have ln72 := leb_len 5 (un x70)
              obtain ⟨hP1, hK1, hD1⟩ := hB
              replace hP1 := va_P.he ht hP1
              obtain ⟨hP, hD⟩ := va_join (wr := (wz_202 h0 pr kn lt h0_localCount pe h0_pendingCount h0_gives h0_depth h0_loopDepth to bo cs se pr gl fu pa pf sf pk pg pp pz pv pr_reason pr_place pr_scanner_r pr_stepCount pr_open pr_twoSides pr_waiting_r pr_waitingPlaces_r pr_waitingCount lt clt wlt pe cpe gpe kn tr kns knz knt knv kn_length kns ckns gkns knz cknz gknz knt cknt gknt knv cknv gknv tr tx tr_length tx ctx gtx pk cpk gpk pg cpg (fun j => (gpg j).map (sg sa)) pp cpp gpp pz cpz gpz pv cpv gpv gl tr gls glz glt glv gl_length gls cgls ggls glz cglz gglz glt cglt gglt)) (w1 := (wz_94 bo bob n72 bob cbob f73)) hP hD [20, 21] [0, 1, 2, 3, 4, 5, 6, 7, 8, 9, 10, 11, 12, 13, 14, 15, 16, 17, 18, 19] rfl rfl (by decide) (by decide) hk1 hFc hP1 hD1
              clear hPc hDc hKc hFc hz1 hk1 hP1 hK1 hD1
              rename Heap => H
              have hP : va_P (dC, dI) cls (wz_203 h0 pr kn lt h0_localCount pe h0_pendingCount h0_gives h0_depth h0_loopDepth to bo cs se pr gl fu pa pf sf pk pg pp pz pv pr_reason pr_place pr_scanner_r pr_stepCount pr_open pr_twoSides pr_waiting_r pr_waitingPlaces_r pr_waitingCount lt clt wlt pe cpe gpe kn tr kns knz knt knv kn_length kns ckns gkns knz cknz gknz knt cknt gknt knv cknv gknv tr tx tr_length tx ctx gtx pk cpk gpk pg cpg (fun j => (gpg j).map (sg sa)) pp cpp gpp pz cpz gpz pv cpv gpv gl tr gls glz glt glv gl_length gls cgls ggls glz cglz gglz glt cglt gglt bo bob n72 bob cbob f73) H := hP
              have hD : va_D A (wz_203 h0 pr kn lt h0_localCount pe h0_pendingCount h0_gives h0_depth h0_loopDepth to bo cs se pr gl fu pa pf sf pk pg pp pz pv pr_reason pr_place pr_scanner_r pr_stepCount pr_open pr_twoSides pr_waiting_r pr_waitingPlaces_r pr_waitingCount lt clt wlt pe cpe gpe kn tr kns knz knt knv kn_length kns ckns gkns knz cknz gknz knt cknt gknt knv cknv gknv tr tx tr_length tx ctx gtx pk cpk gpk pg cpg (fun j => (gpg j).map (sg sa)) pp cpp gpp pz cpz gpz pv cpv gpv gl tr gls glz glt glv gl_length gls cgls ggls glz cglz gglz glt cglt gglt bo bob n72 bob cbob f73) := hD
              have hP9 := hP.sb (wq := (wz_195 h0 pr kn lt h0_localCount pe h0_pendingCount h0_gives h0_depth h0_loopDepth to bo cs se pr gl fu pa pf sf pk pg pp pz pv pr_reason pr_place pr_scanner_r pr_stepCount pr_open pr_twoSides pr_waiting_r pr_waitingPlaces_r pr_waitingCount lt clt wlt pe cpe gpe bo bob n72 bob cbob f73 kn tr kns knz knt knv kn_length kns ckns gkns knz cknz gknz knt cknt gknt knv cknv gknv tr tx tr_length tx ctx gtx pk cpk gpk pg cpg (fun j => (gpg j).map (sg sa)) pp cpp gpp pz cpz gpz pv cpv gpv gl tr gls glz glt glv gl_length gls cgls ggls glz cglz gglz glt cglt gglt)) [0, 1, 2, 3, 20, 21, 4, 5, 6, 7, 8, 9, 10, 11, 12, 13, 14, 15, 16, 17, 18, 19] rfl
              have hD9 := hD.sb (wq := (wz_195 h0 pr kn lt h0_localCount pe h0_pendingCount h0_gives h0_depth h0_loopDepth to bo cs se pr gl fu pa pf sf pk pg pp pz pv pr_reason pr_place pr_scanner_r pr_stepCount pr_open pr_twoSides pr_waiting_r pr_waitingPlaces_r pr_waitingCount lt clt wlt pe cpe gpe bo bob n72 bob cbob f73 kn tr kns knz knt knv kn_length kns ckns gkns knz cknz gknz knt cknt gknt knv cknv gknv tr tx tr_length tx ctx gtx pk cpk gpk pg cpg (fun j => (gpg j).map (sg sa)) pp cpp gpp pz cpz gpz pv cpv gpv gl tr gls glz glt glv gl_length gls cgls ggls glz cglz gglz glt cglt gglt)) [0, 1, 2, 3, 20, 21, 4, 5, 6, 7, 8, 9, 10, 11, 12, 13, 14, 15, 16, 17, 18, 19] (by decide) rfl
              exact tz_up (fun _ => rfl) (W.vret hx hb hr (fun t ht hW => ⟨⟨(f73, gkns, gknt, gknv, gknz, wlt, n72, h0_localCount, h0_pendingCount, kn_length, pr_place, pr_reason), ⟨rfl, ⟨by (try dsimp only) <;> (first | (apply Int.le_antisymm <;> omega) | omega), b_h0_localCount, b_h0_pendingCount, b_kn_length, ⟨by (try dsimp only); have hI := hI.out; have hbl : bl f73 n72.toNatClampNeg = bl gbob bo_length.toNatClampNeg ++ [12, x70.toInt.toNat] := (by rw [bn72, bn67 (by (first | (apply Int.le_antisymm <;> omega) | omega)), leb_s (by (first | (apply Int.le_antisymm <;> omega) | omega)) (by (first | (apply Int.le_antisymm <;> omega) | omega)), List.append_assoc]; rfl); rw [hbl, ec]; rw [eS] at hI; exact cI_dead (op := 12) (v := x70.toInt) hI (Or.inl rfl) (en_u (op := 12) (v := x70.toInt) (by (first | (apply Int.le_antisymm <;> omega) | omega)) (by (first | (apply Int.le_antisymm <;> omega) | omega)) (by (first | (apply Int.le_antisymm <;> omega) | omega))).symm (by simp) (Or.inr (Or.inr (Or.inr (Or.inl ⟨by dsimp only; (first | (apply Int.le_antisymm <;> omega) | omega), by dsimp only; (first | (apply Int.le_antisymm <;> omega) | omega), by dsimp only; (first | (apply Int.le_antisymm <;> omega) | omega)⟩)))), hkq.out, by (try dsimp only) <;> (first | (apply Int.le_antisymm <;> omega) | omega), hlq.out, by (try dsimp only) <;> (first | (apply Int.le_antisymm <;> omega) | omega)⟩⟩⟩, va_P.he ht.symm hP9, va_K.moved hW.alike hK, hD9⟩, hS.F ht⟩) hS.2.2 d_CO_codeStatement_298)
            · skip
              refine lv_acmp_ne (rx := some (sg sa ka)) (ry := some (sg sa 11)) (tgt := 293) hx hb d_CO_codeStatement_286 (by decide) (fun c286 => ?_) (fun c286 => ?_)
              · have q286 : ka ≠ 11 := fun z => c286 (by rw [z])
                refine lv_iconst (v := 0) hx hb d_CO_codeStatement_293 (by decide) ?_
                exact jn294 0 _ _ _ ⟨Or.inl rfl, by decide, hP, hD, hS, lv_sub hl [] rfl⟩
              · have q286 : ka = 11 := hSW.2.2.2.1.2 ka 11 b9 (by decide : 11 < 55) (Option.some.inj c286)
                refine lv_iconst (v := 1) hx hb d_CO_codeStatement_289 (by decide) ?_
                refine lv_goto (tgt := 294) hx hb d_CO_codeStatement_290 (by decide) ?_
                exact jn294 1 _ _ _ ⟨Or.inr rfl, by decide, hP, hD, hS, lv_sub hl [] rfl⟩
          · have q247 := eqI c247
            refine lv_aload_n hx hb d_CO_codeStatement_250 rfl (lv_at hl 2 rfl) ?_
            refine va_get (D := (dC, dI)) (ci := 2) (v := .ref pr) (C := R_CO) (T := F_CO) (N := 13) hx hb hts i_CO hown hK hP 0 rfl rfl 0 (by decide) (hts _ kF_CO_36) (fun _ h9 => h9) rfl d_CO_codeStatement_251 ?_
            refine lv_bipush (v := 6) hx hb d_CO_codeStatement_254 (by decide) ?_
            refine lv_iload_n hx hb d_CO_codeStatement_256 rfl (lv_at hl 0 rfl) ?_
            have hPc := hP.sb (wq := (wz_110 pr gl fu pa pf sf pk pg pp pz pv pr_reason pr_place pr_scanner_r pr_stepCount pr_open pr_twoSides pr_waiting_r pr_waitingPlaces_r pr_waitingCount)) [1] rfl
            have hDc := hD.sb (wq := (wz_110 pr gl fu pa pf sf pk pg pp pz pv pr_reason pr_place pr_scanner_r pr_stepCount pr_open pr_twoSides pr_waiting_r pr_waitingPlaces_r pr_waitingCount)) [1] (by decide) rfl
            have hKc := hK.sb (tyq := []) [] rfl
            have hFc := va_free (wc := (wz_110 pr gl fu pa pf sf pk pg pp pz pv pr_reason pr_place pr_scanner_r pr_stepCount pr_open pr_twoSides pr_waiting_r pr_waitingPlaces_r pr_waitingCount)) hD hS hA [1] rfl
            refine tq_callv (tz_runV (As := [.int 6, .int x2]) (rest := []) ⟨hx, hb, hml, hown, hts⟩ (c_PR_refuse l hlt dC dI H.size sa pr gl fu pa pf sf pk pg pp pz pv pr_scanner_r pr_waiting_r pr_waitingPlaces_r pr_reason pr_place pr_stepCount pr_open pr_twoSides pr_waitingCount 6 x2) (cwV 2 hts (gV kM_CO_105 kV_PR_refuse kS_PR_refuse kI_PR kC_PR_refuse) rfl rfl rfl (by decide +kernel) ⟨Nat.le_of_ble_eq_true rfl, Nat.le_of_ble_eq_true rfl⟩) ⟨fun a U g mk z => by obtain ⟨z0, z1, zP, zK, zD, zS⟩ := z; exact ⟨z0, z1, zP, va_K.moved (u := U) (U := U.calling g mk a) (Vm.Alike.refl U.vm) zK, zD, sw.same (u := U) (U := U.calling g mk a) rfl zS⟩, va_recv hKc hPc (ci := 6) (q0 := 0) rfl rfl, fun U hU hW => ⟨rfl, by rw [hU], va_P.he hU.symm hPc, va_K.moved hW.alike hKc, hDc.weaken (fun _ _ _ _ => trivial), hSW.call hS hFc hW hU⟩⟩ rfl rfl hl.1 rfl (lv_room (Nat.le_of_ble_eq_true rfl)) d_CO_codeStatement_257 ⟨Nat.le_of_ble_eq_true rfl, Nat.le_of_ble_eq_true rfl⟩) hS (fun q _ h => hFc q h) hFc (fun u t H1 locs ht hvm hw hB hz1 hk1 hS => ?_) (fun xx u t H1 locs ht hvm hw hXX hB hz1 hk1 hS => ?_)
            rotate_left
            · skip
              obtain ⟨n75, n76⟩ := u
              try dsimp only at hw
              obtain ⟨hP1, hK1, hD1⟩ := hB
              replace hP1 := va_P.he ht hP1
              obtain ⟨hP, hD⟩ := va_join (wr := [(h0, .inr (2, [.ref pr, .ref kn, .ref lt, .int h0_localCount, .ref pe, .int h0_pendingCount, .int h0_gives, .int h0_depth, .int h0_loopDepth, .ref to, .ref bo, .ref cs, .ref se])), (lt, .inl (clt, 50, .inl wlt)), (pe, .inl (cpe, 680, .inl gpe)), (bo, .inr (1, [.ref bob, .int bo_length])), (bob, .inl (cbob, 8192, .inl gbob)), (kn, .inr (5, [.ref tr, .ref kns, .ref knz, .ref knt, .ref knv, .int kn_length])), (kns, .inl (ckns, 50, .inl gkns)), (knz, .inl (cknz, 50, .inl gknz)), (knt, .inl (cknt, 50, .inl gknt)), (knv, .inl (cknv, 50, .inr (.inl gknv))), (tr, .inr (1, [.ref tx, .int tr_length])), (tx, .inl (ctx, 2000, .inl gtx)), (pk, .inl (cpk, 4100, .inl gpk)), (pg, .inl (cpg, 4100, .inr (.inr (.inr (.inr (fun j => (gpg j).map (sg sa))))))), (pp, .inl (cpp, 4100, .inl gpp)), (pz, .inl (cpz, 4100, .inl gpz)), (pv, .inl (cpv, 4100, .inr (.inl gpv))), (gl, .inr (5, [.ref tr, .ref gls, .ref glz, .ref glt, .ref glv, .int gl_length])), (gls, .inl (cgls, 20, .inl ggls)), (glz, .inl (cglz, 20, .inl gglz)), (glt, .inl (cglt, 20, .inl gglt))]) (w1 := (wz_110 pr gl fu pa pf sf pk pg pp pz pv n76 n75 pr_scanner_r pr_stepCount pr_open pr_twoSides pr_waiting_r pr_waitingPlaces_r pr_waitingCount)) hP hD [1] [0, 2, 3, 4, 5, 6, 7, 8, 9, 10, 11, 12, 13, 14, 15, 16, 17, 18, 19, 20, 21] rfl rfl (by decide) (by decide) hk1 hFc hP1 hD1
              have hP : va_P (dC, dI) cls (wz_201 h0 pr kn lt h0_localCount pe h0_pendingCount h0_gives h0_depth h0_loopDepth to bo cs se lt clt wlt pe cpe gpe bo bob bo_length bob cbob gbob kn tr kns knz knt knv kn_length kns ckns gkns knz cknz gknz knt cknt gknt knv cknv gknv tr tx tr_length tx ctx gtx pk cpk gpk pg cpg (fun j => (gpg j).map (sg sa)) pp cpp gpp pz cpz gpz pv cpv gpv gl tr gls glz glt glv gl_length gls cgls ggls glz cglz gglz glt cglt gglt pr gl fu pa pf sf pk pg pp pz pv n76 n75 pr_scanner_r pr_stepCount pr_open pr_twoSides pr_waiting_r pr_waitingPlaces_r pr_waitingCount) H1 := hP
              have hD : va_D A (wz_201 h0 pr kn lt h0_localCount pe h0_pendingCount h0_gives h0_depth h0_loopDepth to bo cs se lt clt wlt pe cpe gpe bo bob bo_length bob cbob gbob kn tr kns knz knt knv kn_length kns ckns gkns knz cknz gknz knt cknt gknt knv cknv gknv tr tx tr_length tx ctx gtx pk cpk gpk pg cpg (fun j => (gpg j).map (sg sa)) pp cpp gpp pz cpz gpz pv cpv gpv gl tr gls glz glt glv gl_length gls cgls ggls glz cglz gglz glt cglt gglt pr gl fu pa pf sf pk pg pp pz pv n76 n75 pr_scanner_r pr_stepCount pr_open pr_twoSides pr_waiting_r pr_waitingPlaces_r pr_waitingCount) := hD
              have hP9 := hP.sb (wq := (wz_195 h0 pr kn lt h0_localCount pe h0_pendingCount h0_gives h0_depth h0_loopDepth to bo cs se pr gl fu pa pf sf pk pg pp pz pv n76 n75 pr_scanner_r pr_stepCount pr_open pr_twoSides pr_waiting_r pr_waitingPlaces_r pr_waitingCount lt clt wlt pe cpe gpe bo bob bo_length bob cbob gbob kn tr kns knz knt knv kn_length kns ckns gkns knz cknz gknz knt cknt gknt knv cknv gknv tr tx tr_length tx ctx gtx pk cpk gpk pg cpg (fun j => (gpg j).map (sg sa)) pp cpp gpp pz cpz gpz pv cpv gpv gl tr gls glz glt glv gl_length gls cgls ggls glz cglz gglz glt cglt gglt)) [0, 21, 1, 2, 3, 4, 5, 6, 7, 8, 9, 10, 11, 12, 13, 14, 15, 16, 17, 18, 19, 20] rfl
              have hD9 := hD.sb (wq := (wz_195 h0 pr kn lt h0_localCount pe h0_pendingCount h0_gives h0_depth h0_loopDepth to bo cs se pr gl fu pa pf sf pk pg pp pz pv n76 n75 pr_scanner_r pr_stepCount pr_open pr_twoSides pr_waiting_r pr_waitingPlaces_r pr_waitingCount lt clt wlt pe cpe gpe bo bob bo_length bob cbob gbob kn tr kns knz knt knv kn_length kns ckns gkns knz cknz gknz knt cknt gknt knv cknv gknv tr tx tr_length tx ctx gtx pk cpk gpk pg cpg (fun j => (gpg j).map (sg sa)) pp cpp gpp pz cpz gpz pv cpv gpv gl tr gls glz glt glv gl_length gls cgls ggls glz cglz gglz glt cglt gglt)) [0, 21, 1, 2, 3, 4, 5, 6, 7, 8, 9, 10, 11, 12, 13, 14, 15, 16, 17, 18, 19, 20] (by decide) rfl
              exact tz_leave rfl hno hlocks (fun t ht hW => ⟨⟨(gbob, gkns, gknt, gknv, gknz, wlt, bo_length, h0_localCount, h0_pendingCount, kn_length, n75, n76), ⟨⟨b_bo_length, b_h0_localCount, b_h0_pendingCount, b_kn_length⟩, by rw [ht]; exact hXX.moved hW.alike⟩, va_P.he ht.symm hP9, va_K.moved hW.alike hK, hD9⟩, hS.F ht⟩) hS.2.2
            exact (show False from hw).elim
end q_75

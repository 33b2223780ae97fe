section q_48
/-! Program: signs in front -/
def pu (g : Nat → Option Nat) (f : Nat) : Nat → List Nat → List Nat
  | 0, S => S
  | i + 1, S => if g (f + i) = some 51 then 1 :: pu g f i S else pu g f i S
def pq (g : Nat → Option Nat) (f : Nat) : Nat → Int
  | 0 => 0
  | i + 1 => pq g f i + if g (f + i) = some 51 then 10 else 16
def ps (g : Nat → Option Nat) (f i : Nat) : Prop := ∀ j, f ≤ j → j < f + i → ∃ k, g j = some k ∧ (k = 34 ∨ k = 35 ∨ k = 51)
theorem pu_0 {g : Nat → Option Nat} {f i : Nat} {S : List Nat} (h : i = 0) : pu g f i S = S := by subst h; rfl
theorem pq_0 {g : Nat → Option Nat} {f i : Nat} (h : i = 0) : pq g f i = 0 := by subst h; rfl
theorem pq_pos {g : Nat → Option Nat} {f : Nat} : ∀ i, 0 ≤ pq g f i := by
  intro i
  induction i with
  | zero => exact Int.le_refl _
  | succ i ih =>
    have : pq g f (i + 1) = pq g f i + if g (f + i) = some 51 then 10 else 16 := rfl
    rw [this]
    split <;> (first | (apply Int.le_antisymm <;> omega) | omega)
theorem pu_len {g : Nat → Option Nat} {f : Nat} {S : List Nat} : ∀ i, (pu g f i S).length ≤ S.length + i := by
  intro i
  induction i with
  | zero => exact Nat.le_refl _
  | succ i ih =>
    have : pu g f (i + 1) S = if g (f + i) = some 51 then 1 :: pu g f i S else pu g f i S := rfl
    rw [this]
    split
    · rw [List.length_cons]; (first | (apply Int.le_antisymm <;> omega) | omega)
    · (first | (apply Int.le_antisymm <;> omega) | omega)
theorem pu_fr {g : Nat → Option Nat} {f : Nat} {S : List Nat} : ∀ i, fr (pu g f i S) = fr S := by
  intro i
  induction i with
  | zero => rfl
  | succ i ih =>
    have : pu g f (i + 1) S = if g (f + i) = some 51 then 1 :: pu g f i S else pu g f i S := rfl
    rw [this]
    split
    · have z : fw 1 = 0 := rfl
      show fr (pu g f i S) + fw 1 = fr S
      (first | (apply Int.le_antisymm <;> omega) | omega)
    · exact ih
theorem pu_ls {B B2 : Int} {g : Nat → Option Nat} {f i : Nat} {S : List Nat} (q : ls B S) (h : B + i ≤ B2) : ls B2 (pu g f i S) := ⟨by have := q.1; have := pu_len (g := g) (f := f) (S := S) i; (first | (apply Int.le_antisymm <;> omega) | omega), by have := q.2; rw [pu_fr]; unfold ph at *; (first | (apply Int.le_antisymm <;> omega) | omega)⟩
theorem pu_wk {a b : Nat → Option Nat} {f : Nat} {S : List Nat} {n : Int} (h : wk n a b) : ∀ i, ((f + i : Nat) : Int) ≤ n → pu b f i S = pu a f i S := by
  intro i
  induction i with
  | zero => intro _; rfl
  | succ i ih =>
    intro q
    have e1 : pu a f (i + 1) S = if a (f + i) = some 51 then 1 :: pu a f i S else pu a f i S := rfl
    have e2 : pu b f (i + 1) S = if b (f + i) = some 51 then 1 :: pu b f i S else pu b f i S := rfl
    rw [e1, e2, h (f + i) (by (first | (apply Int.le_antisymm <;> omega) | omega)), ih (by (first | (apply Int.le_antisymm <;> omega) | omega))]
theorem pq_wk {a b : Nat → Option Nat} {f : Nat} {n : Int} (h : wk n a b) : ∀ i, ((f + i : Nat) : Int) ≤ n → pq b f i = pq a f i := by
  intro i
  induction i with
  | zero => intro _; rfl
  | succ i ih =>
    intro q
    have e1 : pq a f (i + 1) = pq a f i + if a (f + i) = some 51 then 10 else 16 := rfl
    have e2 : pq b f (i + 1) = pq b f i + if b (f + i) = some 51 then 10 else 16 := rfl
    rw [e1, e2, h (f + i) (by (first | (apply Int.le_antisymm <;> omega) | omega)), ih (by (first | (apply Int.le_antisymm <;> omega) | omega))]
theorem ps_wk {a b : Nat → Option Nat} {f i : Nat} {n : Int} (h : wk n a b) (q : ((f + i : Nat) : Int) ≤ n) (hs : ps a f i) : ps b f i := fun j h1 h2 => by rw [h j (by (first | (apply Int.le_antisymm <;> omega) | omega))]; exact hs j h1 h2
theorem ps_up {a b : Nat → Option Nat} {f i i2 k : Nat} {w : Int32} (e : b = va_up a w.toNatClampNeg (some k)) (hw : w.toInt = (f + i : Nat)) (h2 : i2 = i + 1) (hk : k = 34 ∨ k = 35 ∨ k = 51) (hs : ps a f i) : ps b f i2 := by
  subst e; subst h2
  have c := i32_clamp (x := w) (by (first | (apply Int.le_antisymm <;> omega) | omega))
  intro j h1 h3
  by_cases q : j = w.toNatClampNeg
  · exact ⟨k, by rw [q]; exact va_us, hk⟩
  · rw [va_un q]
    exact hs j h1 (by (first | (apply Int.le_antisymm <;> omega) | omega))
theorem pX_hold {B d d2 : Int} {l l1 : List pS} {a b : Nat → Option Nat} {f i i2 k : Nat} {w : Int32} (h : pX B (fun S => if k = 51 then 1 :: pu a f i S else pu a f i S) l l1 (d - pq a f i + if k = 51 then 10 else 0)) (e : b = va_up a w.toNatClampNeg (some k)) (hw : w.toInt = (f + i : Nat)) (h2 : i2 = i + 1) (hd : d + 20 ≤ d2) : pX B (fun S => pu b f i2 S) l l1 (d2 - pq b f i2) := by
  subst h2
  have hk : wk (f + i : Nat) a b := wk_up e (by (first | (apply Int.le_antisymm <;> omega) | omega)) (by (first | (apply Int.le_antisymm <;> omega) | omega))
  have hb : b (f + i) = some k := by
    have c := i32_clamp (x := w) (by (first | (apply Int.le_antisymm <;> omega) | omega))
    rw [e, show f + i = w.toNatClampNeg from by (first | (apply Int.le_antisymm <;> omega) | omega)]
    exact va_us
  have e1 : pq b f (i + 1) = pq a f i + if k = 51 then 10 else 16 := by
    have : pq b f (i + 1) = pq b f i + if b (f + i) = some 51 then 10 else 16 := rfl
    rw [this, pq_wk hk i (Int.le_refl _), hb]
    by_cases q : k = 51
    · rw [if_pos q, if_pos (by rw [q])]
    · rw [if_neg q, if_neg (fun z => q (Option.some.inj z))]
  refine pX_mono (pX_eq h (fun S => ?_)) (Int.le_refl _) ?_
  · have : pu b f (i + 1) S = if b (f + i) = some 51 then 1 :: pu b f i S else pu b f i S := rfl
    rw [this, pu_wk hk i (Int.le_refl _), hb]
    by_cases q : k = 51
    · rw [if_pos q, if_pos (by rw [q])]
    · rw [if_neg q, if_neg (fun z => q (Option.some.inj z))]
  · rw [e1]
    split <;> (first | (apply Int.le_antisymm <;> omega) | omega)
theorem pX_pre {B D : Int} {l l1 l2 : List pS} {g : Nat → Option Nat} {f i i2 k : Nat} {p z : Int32} {v : Int64} (h : pX B (fun S => 0 :: pu g f i S) l l1 (D - pq g f i)) (e : l2 = l1 ++ [(5, some k, p, z, v)]) (hi : i = i2 + 1) (hk : g (f + i2) = some k) (hs : ps g f i) (hB : B + i2 ≤ 679) : pX B (fun S => 0 :: pu g f i2 S) l l2 (D - pq g f i2) := by
  subst hi
  obtain ⟨k2, q1, q2⟩ := hs (f + i2) (by (first | (apply Int.le_antisymm <;> omega) | omega)) (by (first | (apply Int.le_antisymm <;> omega) | omega))
  rw [hk] at q1
  obtain rfl := Option.some.inj q1
  have hl : ∀ S : List Nat, ls B S → lm (0 :: pu g f i2 S) := fun S q => lm_c (pu_ls q (Int.le_refl _)) (by (first | (apply Int.le_antisymm <;> omega) | omega))
  have e1 : pq g f (i2 + 1) = pq g f i2 + if g (f + i2) = some 51 then 10 else 16 := rfl
  have e2 : ∀ S, pu g f (i2 + 1) S = if g (f + i2) = some 51 then 1 :: pu g f i2 S else pu g f i2 S := fun _ => rfl
  by_cases q : k = 51
  · rw [if_pos (by rw [hk, q])] at e1
    refine pX_mono (pX_step (c := 10) h e (fun S hS => ⟨sS_5 ⟨pu g f i2 S, rfl, Or.inl ⟨q, rfl, ?_⟩⟩, hl S hS⟩) (by (first | (apply Int.le_antisymm <;> omega) | omega))) (Int.le_refl _) (by (first | (apply Int.le_antisymm <;> omega) | omega))
    rw [e2 S, if_pos (by rw [hk, q])]
  · rw [if_neg (by rw [hk]; exact fun z => q (Option.some.inj z))] at e1
    refine pX_mono (pX_step (c := 16) h e (fun S hS => ⟨sS_5 ⟨pu g f i2 S, rfl, Or.inr ⟨by (first | (apply Int.le_antisymm <;> omega) | omega), rfl, ?_⟩⟩, hl S hS⟩) (by (first | (apply Int.le_antisymm <;> omega) | omega))) (Int.le_refl _) (by (first | (apply Int.le_antisymm <;> omega) | omega))
    rw [e2 S, if_neg (by rw [hk]; exact fun z => q (Option.some.inj z))]
theorem d_PR_readU_0 : decode b_PR_readU 0 = .ok (.aload_n 0, 1) := bz_c42 (by decide +kernel)
theorem d_PR_readU_1 : decode b_PR_readU 1 = .ok (.getfield 87, 3) := bz_c180 (by decide +kernel)
theorem d_PR_readU_4 : decode b_PR_readU 4 = .ok (.istore_n 1, 1) := bz_c60 (by decide +kernel)
theorem d_PR_readU_5 : decode b_PR_readU 5 = .ok (.iconst 0, 1) := bz_c3 (by decide +kernel)
theorem d_PR_readU_6 : decode b_PR_readU 6 = .ok (.istore_n 2, 1) := bz_c61 (by decide +kernel)
theorem d_PR_readU_7 : decode b_PR_readU 7 = .ok (.iload_n 2, 1) := bz_c28 (by decide +kernel)
theorem d_PR_readU_8 : decode b_PR_readU 8 = .ok (.bipush 40, 2) := bz_c16 (by decide +kernel)
theorem d_PR_readU_10 : decode b_PR_readU 10 = .ok (.if_icmp .gt 85, 3) := bz_c163 (by decide +kernel)
theorem d_PR_readU_13 : decode b_PR_readU 13 = .ok (.aload_n 0, 1) := bz_c42 (by decide +kernel)
theorem d_PR_readU_14 : decode b_PR_readU 14 = .ok (.getfield 43, 3) := bz_c180 (by decide +kernel)
theorem d_PR_readU_17 : decode b_PR_readU 17 = .ok (.getfield 93, 3) := bz_c180 (by decide +kernel)
theorem d_PR_readU_20 : decode b_PR_readU 20 = .ok (.invokevirtual 261, 3) := bz_c182 (by decide +kernel)
theorem d_PR_readU_23 : decode b_PR_readU 23 = .ok (.ifCond .eq 72, 3) := bz_c153 (by decide +kernel)
theorem d_PR_readU_26 : decode b_PR_readU 26 = .ok (.aload_n 0, 1) := bz_c42 (by decide +kernel)
theorem d_PR_readU_27 : decode b_PR_readU 27 = .ok (.invokevirtual 184, 3) := bz_c182 (by decide +kernel)
theorem d_PR_readU_30 : decode b_PR_readU 30 = .ok (.aload_n 0, 1) := bz_c42 (by decide +kernel)
theorem d_PR_readU_31 : decode b_PR_readU 31 = .ok (.getfield 43, 3) := bz_c180 (by decide +kernel)
theorem d_PR_readU_34 : decode b_PR_readU 34 = .ok (.getfield 93, 3) := bz_c180 (by decide +kernel)
theorem d_PR_readU_37 : decode b_PR_readU 37 = .ok (.getstatic 140, 3) := bz_c178 (by decide +kernel)
theorem d_PR_readU_40 : decode b_PR_readU 40 = .ok (.if_acmp .ne 24, 3) := bz_c166 (by decide +kernel)
theorem d_PR_readU_43 : decode b_PR_readU 43 = .ok (.aload_n 0, 1) := bz_c42 (by decide +kernel)
theorem d_PR_readU_44 : decode b_PR_readU 44 = .ok (.iconst 4, 1) := bz_c7 (by decide +kernel)
theorem d_PR_readU_45 : decode b_PR_readU 45 = .ok (.aload_n 0, 1) := bz_c42 (by decide +kernel)
theorem d_PR_readU_46 : decode b_PR_readU 46 = .ok (.getfield 43, 3) := bz_c180 (by decide +kernel)
theorem d_PR_readU_49 : decode b_PR_readU 49 = .ok (.getfield 93, 3) := bz_c180 (by decide +kernel)
theorem d_PR_readU_52 : decode b_PR_readU 52 = .ok (.aload_n 0, 1) := bz_c42 (by decide +kernel)
theorem d_PR_readU_53 : decode b_PR_readU 53 = .ok (.getfield 43, 3) := bz_c180 (by decide +kernel)
theorem d_PR_readU_56 : decode b_PR_readU 56 = .ok (.getfield 109, 3) := bz_c180 (by decide +kernel)
theorem d_PR_readU_59 : decode b_PR_readU 59 = .ok (.iconst 0, 1) := bz_c3 (by decide +kernel)
theorem d_PR_readU_60 : decode b_PR_readU 60 = .ok (.lconst 0, 1) := bz_c9 (by decide +kernel)
theorem d_PR_readU_61 : decode b_PR_readU 61 = .ok (.invokevirtual 187, 3) := bz_c182 (by decide +kernel)
theorem d_PR_readU_64 : decode b_PR_readU 64 = .ok (.aload_n 0, 1) := bz_c42 (by decide +kernel)
theorem d_PR_readU_65 : decode b_PR_readU 65 = .ok (.aload_n 0, 1) := bz_c42 (by decide +kernel)
theorem d_PR_readU_66 : decode b_PR_readU 66 = .ok (.getfield 43, 3) := bz_c180 (by decide +kernel)
theorem d_PR_readU_69 : decode b_PR_readU 69 = .ok (.getfield 93, 3) := bz_c180 (by decide +kernel)
theorem d_PR_readU_72 : decode b_PR_readU 72 = .ok (.aload_n 0, 1) := bz_c42 (by decide +kernel)
theorem d_PR_readU_73 : decode b_PR_readU 73 = .ok (.getfield 43, 3) := bz_c180 (by decide +kernel)
theorem d_PR_readU_76 : decode b_PR_readU 76 = .ok (.getfield 109, 3) := bz_c180 (by decide +kernel)
theorem d_PR_readU_79 : decode b_PR_readU 79 = .ok (.invokevirtual 257, 3) := bz_c182 (by decide +kernel)
theorem d_PR_readU_82 : decode b_PR_readU 82 = .ok (.aload_n 0, 1) := bz_c42 (by decide +kernel)
theorem d_PR_readU_83 : decode b_PR_readU 83 = .ok (.getfield 43, 3) := bz_c180 (by decide +kernel)
theorem d_PR_readU_86 : decode b_PR_readU 86 = .ok (.invokevirtual 114, 3) := bz_c182 (by decide +kernel)
theorem d_PR_readU_89 : decode b_PR_readU 89 = .ok (.iinc 2 1, 3) := by decide +kernel
theorem d_PR_readU_92 : decode b_PR_readU 92 = .ok (.goto (-85), 3) := bz_c167 (by decide +kernel)
theorem d_PR_readU_95 : decode b_PR_readU 95 = .ok (.aload_n 0, 1) := bz_c42 (by decide +kernel)
theorem d_PR_readU_96 : decode b_PR_readU 96 = .ok (.invokevirtual 264, 3) := bz_c182 (by decide +kernel)
theorem d_PR_readU_99 : decode b_PR_readU 99 = .ok (.aload_n 0, 1) := bz_c42 (by decide +kernel)
theorem d_PR_readU_100 : decode b_PR_readU 100 = .ok (.getfield 87, 3) := bz_c180 (by decide +kernel)
theorem d_PR_readU_103 : decode b_PR_readU 103 = .ok (.iload_n 1, 1) := bz_c27 (by decide +kernel)
theorem d_PR_readU_104 : decode b_PR_readU 104 = .ok (.if_icmp .le 51, 3) := bz_c164 (by decide +kernel)
theorem d_PR_readU_107 : decode b_PR_readU 107 = .ok (.aload_n 0, 1) := bz_c42 (by decide +kernel)
theorem d_PR_readU_108 : decode b_PR_readU 108 = .ok (.dup, 1) := bz_c89 (by decide +kernel)
theorem d_PR_readU_109 : decode b_PR_readU 109 = .ok (.getfield 87, 3) := bz_c180 (by decide +kernel)
theorem d_PR_readU_112 : decode b_PR_readU 112 = .ok (.iconst 1, 1) := bz_c4 (by decide +kernel)
theorem d_PR_readU_113 : decode b_PR_readU 113 = .ok (.isub, 1) := bz_c100 (by decide +kernel)
theorem d_PR_readU_114 : decode b_PR_readU 114 = .ok (.putfield 87, 3) := bz_c181 (by decide +kernel)
theorem d_PR_readU_117 : decode b_PR_readU 117 = .ok (.aload_n 0, 1) := bz_c42 (by decide +kernel)
theorem d_PR_readU_118 : decode b_PR_readU 118 = .ok (.iconst 5, 1) := bz_c8 (by decide +kernel)
theorem d_PR_readU_119 : decode b_PR_readU 119 = .ok (.aload_n 0, 1) := bz_c42 (by decide +kernel)
theorem d_PR_readU_120 : decode b_PR_readU 120 = .ok (.getfield 37, 3) := bz_c180 (by decide +kernel)
theorem d_PR_readU_123 : decode b_PR_readU 123 = .ok (.aload_n 0, 1) := bz_c42 (by decide +kernel)
theorem d_PR_readU_124 : decode b_PR_readU 124 = .ok (.getfield 87, 3) := bz_c180 (by decide +kernel)
theorem d_PR_readU_127 : decode b_PR_readU 127 = .ok (.aaload, 1) := bz_c50 (by decide +kernel)
theorem d_PR_readU_128 : decode b_PR_readU 128 = .ok (.aload_n 0, 1) := bz_c42 (by decide +kernel)
theorem d_PR_readU_129 : decode b_PR_readU 129 = .ok (.getfield 40, 3) := bz_c180 (by decide +kernel)
theorem d_PR_readU_132 : decode b_PR_readU 132 = .ok (.aload_n 0, 1) := bz_c42 (by decide +kernel)
theorem d_PR_readU_133 : decode b_PR_readU 133 = .ok (.getfield 87, 3) := bz_c180 (by decide +kernel)
theorem d_PR_readU_136 : decode b_PR_readU 136 = .ok (.iaload, 1) := bz_c46 (by decide +kernel)
theorem d_PR_readU_137 : decode b_PR_readU 137 = .ok (.iconst 0, 1) := bz_c3 (by decide +kernel)
theorem d_PR_readU_138 : decode b_PR_readU 138 = .ok (.lconst 0, 1) := bz_c9 (by decide +kernel)
theorem d_PR_readU_139 : decode b_PR_readU 139 = .ok (.invokevirtual 187, 3) := bz_c182 (by decide +kernel)
theorem d_PR_readU_142 : decode b_PR_readU 142 = .ok (.aload_n 0, 1) := bz_c42 (by decide +kernel)
theorem d_PR_readU_143 : decode b_PR_readU 143 = .ok (.dup, 1) := bz_c89 (by decide +kernel)
theorem d_PR_readU_144 : decode b_PR_readU 144 = .ok (.getfield 84, 3) := bz_c180 (by decide +kernel)
theorem d_PR_readU_147 : decode b_PR_readU 147 = .ok (.iconst 1, 1) := bz_c4 (by decide +kernel)
theorem d_PR_readU_148 : decode b_PR_readU 148 = .ok (.isub, 1) := bz_c100 (by decide +kernel)
theorem d_PR_readU_149 : decode b_PR_readU 149 = .ok (.putfield 84, 3) := bz_c181 (by decide +kernel)
theorem d_PR_readU_152 : decode b_PR_readU 152 = .ok (.goto (-53), 3) := bz_c167 (by decide +kernel)
theorem d_PR_readU_155 : decode b_PR_readU 155 = .ok (.return_, 1) := bz_c177 (by decide +kernel)
theorem kM_PR_261 : Cond.methodLink R_PR 261 y_SG_isPrefix ∈ lw_g := in_c5 44 rfl rfl
theorem kV_SG_isPrefix : Cond.instanceMethod y_SG_isPrefix ∈ lw_g := in_c5 45 rfl rfl
theorem kS_SG_isPrefix : Cond.selects R_SG y_SG_isPrefix y_SG_isPrefix ∈ lw_g := in_c5 46 rfl rfl
theorem kM_PR_257 : Cond.methodLink R_PR 257 y_PR_hold ∈ lw_g := in_c5 53 rfl rfl
theorem kV_PR_hold : Cond.instanceMethod y_PR_hold ∈ lw_g := in_c5 55 rfl rfl
theorem kS_PR_hold : Cond.selects R_PR y_PR_hold y_PR_hold ∈ lw_g := in_s 21 (by decide +kernel) rfl
theorem kM_PR_264 : Cond.methodLink R_PR 264 y_PR_readOperand ∈ lw_g := in_c5 57 rfl rfl
theorem kV_PR_readOperand : Cond.instanceMethod y_PR_readOperand ∈ lw_g := in_c5 59 rfl rfl
theorem kS_PR_readOperand : Cond.selects R_PR y_PR_readOperand y_PR_readOperand ∈ lw_g := in_s 22 (by decide +kernel) rfl
abbrev at_PR_readU (dC : Nat → ClassId) (dI : Nat → Nat → Nat) (sa : Nat → Nat) (h0 gl fu pa pf sf pk pg pp pz pv sc wg wp tr ss sp szs sv tx : Nat) (css csp cszs csv cpk cpg cpp cpz cpv cwg cwp : ClassId) (sc_length : Int32) (tr_length : Int32) (gss : Nat → Option Nat) (gsp : Nat → Int32) (gszs : Nat → Int32) (gsv : Nat → Int64) (A : Nat → Prop) (u : (Nat → Option Nat) × (Nat → Int32) × (Nat → Int32) × (Nat → Int64) × (Nat → Int32) × (Nat → Option Nat) × (Nat → Int32) × Int32 × Int32 × Int32 × Int32 × Int32 × Int32 × Int32 × Int32 × Nat × Int32 × Int64) (t : State) : Prop := match u with | (gpg, gpk, gpp, gpv, gpz, gwg, gwp, h0_open, h0_place, h0_reason, h0_stepCount, h0_twoSides, h0_waitingCount, sc_at, sc_place, sc_sign, sc_size, sc_value) => va_P (dC, dI) cls (wz_121 h0 gl fu pa pf sf pk pg pp pz pv h0_reason h0_place sc h0_stepCount h0_open h0_twoSides wg wp h0_waitingCount sc tr (sg sa sc_sign) sc_place sc_size sc_value ss sp szs sv sc_length sc_at tr tx tr_length ss css (fun j => (gss j).map (sg sa)) sp csp gsp szs cszs gszs sv csv gsv pk cpk gpk pg cpg (fun j => (gpg j).map (sg sa)) pp cpp gpp pz cpz gpz pv cpv gpv wg cwg (fun j => (gwg j).map (sg sa)) wp cwp gwp) t.heap ∧ va_K (dC, dI) cls [(css, .object "WaferForge$Sign"), (csp, .int), (cszs, .int), (csv, .long), (cpk, .int), (cpg, .object "WaferForge$Sign"), (cpp, .int), (cpz, .int), (cpv, .long), (cwg, .object "WaferForge$Sign"), (cwp, .int)] t ∧ va_D A (wz_121 h0 gl fu pa pf sf pk pg pp pz pv h0_reason h0_place sc h0_stepCount h0_open h0_twoSides wg wp h0_waitingCount sc tr (sg sa sc_sign) sc_place sc_size sc_value ss sp szs sv sc_length sc_at tr tx tr_length ss css (fun j => (gss j).map (sg sa)) sp csp gsp szs cszs gszs sv csv gsv pk cpk gpk pg cpg (fun j => (gpg j).map (sg sa)) pp cpp gpp pz cpz gpz pv cpv gpv wg cwg (fun j => (gwg j).map (sg sa)) wp cwp gwp)
set_option maxHeartbeats 4000000 in
set_option maxRecDepth 100000 in
theorem c_PR_readU (l : Launch) (hlt : l.stackTraces = false) (dC : Nat → ClassId) (dI : Nat → Nat → Nat) (sz : Nat) (sa : Nat → Nat) (h0 gl fu pa pf sf pk pg pp pz pv sc wg wp tr ss sp szs sv tx : Nat) (css csp cszs csv cpk cpg cpp cpz cpv cwg cwp : ClassId) (h0_reason : Int32) (h0_place : Int32) (h0_stepCount : Int32) (h0_open : Int32) (h0_twoSides : Int32) (h0_waitingCount : Int32) (sc_sign : Nat) (sc_place : Int32) (sc_size : Int32) (sc_value : Int64) (sc_length : Int32) (sc_at : Int32) (tr_length : Int32) (gss : Nat → Option Nat) (gsp : Nat → Int32) (gszs : Nat → Int32) (gsv : Nat → Int64) (gpk : Nat → Int32) (gpg : Nat → Option Nat) (gpp : Nat → Int32) (gpz : Nat → Int32) (gpv : Nat → Int64) (gwg : Nat → Option Nat) (gwp : Nat → Int32) (dep : Nat) (hK_readX : k_PR_readX l dep)  (b_h0_stepCount : 0 ≤ h0_stepCount.toInt ∧ h0_stepCount.toInt ≤ 4100) (b_h0_open : 0 ≤ h0_open.toInt ∧ h0_open.toInt ≤ 40) (b_h0_twoSides : 0 ≤ h0_twoSides.toInt ∧ h0_twoSides.toInt ≤ 400) (b_h0_waitingCount : 0 ≤ h0_waitingCount.toInt ∧ h0_waitingCount.toInt ≤ 360) (b_sc_sign : sc_sign < 55) (b_sc_place : 0 ≤ sc_place.toInt ∧ sc_place.toInt ≤ 2000) (b_sc_size : 0 ≤ sc_size.toInt ∧ sc_size.toInt ≤ 2000) (b_sc_length : 0 ≤ sc_length.toInt ∧ sc_length.toInt ≤ 2001) (b_sc_at : -1 ≤ sc_at.toInt ∧ sc_at.toInt ≤ 2000) (b_tr_length : 0 ≤ tr_length.toInt ∧ tr_length.toInt ≤ 2000)   (hsk : sk tr_length.toInt sc_length.toInt sc_at.toInt sc_sign sc_place sc_size sc_value gss gsp gszs gsv) (hst : 10 * h0_stepCount.toInt ≤ 20 * sc_place.toInt) (hdp : 40 - h0_open.toInt < dep) (hwc : h0_waitingCount.toInt ≤ 8 * h0_open.toInt) (ho : 1 ≤ h0_open.toInt) : tz_Met l y_PR_readU w_PR_readU ({ frames := 5 * dep + 19, cells := 1, slots := 6, locals := 120 * dep + 390 }) (va_Pc [.ref h0] (fun U => U.heap.size = sz ∧ va_P (dC, dI) cls (wz_121 h0 gl fu pa pf sf pk pg pp pz pv h0_reason h0_place sc h0_stepCount h0_open h0_twoSides wg wp h0_waitingCount sc tr (sg sa sc_sign) sc_place sc_size sc_value ss sp szs sv sc_length sc_at tr tx tr_length ss css (fun j => (gss j).map (sg sa)) sp csp gsp szs cszs gszs sv csv gsv pk cpk gpk pg cpg (fun j => (gpg j).map (sg sa)) pp cpp gpp pz cpz gpz pv cpv gpv wg cwg (fun j => (gwg j).map (sg sa)) wp cwp gwp) U.heap ∧ va_K (dC, dI) cls [(css, .object "WaferForge$Sign"), (csp, .int), (cszs, .int), (csv, .long), (cpk, .int), (cpg, .object "WaferForge$Sign"), (cpp, .int), (cpz, .int), (cpv, .long), (cwg, .object "WaferForge$Sign"), (cwp, .int)] U ∧ va_D (fun _ => True) (wz_121 h0 gl fu pa pf sf pk pg pp pz pv h0_reason h0_place sc h0_stepCount h0_open h0_twoSides wg wp h0_waitingCount sc tr (sg sa sc_sign) sc_place sc_size sc_value ss sp szs sv sc_length sc_at tr tx tr_length ss css (fun j => (gss j).map (sg sa)) sp csp gsp szs cszs gszs sv csv gsv pk cpk gpk pg cpg (fun j => (gpg j).map (sg sa)) pp cpp gpp pz cpz gpz pv cpv gpv wg cwg (fun j => (gwg j).map (sg sa)) wp cwp gwp) ∧ sw sa (va_A (wz_121 h0 gl fu pa pf sf pk pg pp pz pv h0_reason h0_place sc h0_stepCount h0_open h0_twoSides wg wp h0_waitingCount sc tr (sg sa sc_sign) sc_place sc_size sc_value ss sp szs sv sc_length sc_at tr tx tr_length ss css (fun j => (gss j).map (sg sa)) sp csp gsp szs cszs gszs sv csv gsv pk cpk gpk pg cpg (fun j => (gpg j).map (sg sa)) pp cpp gpp pz cpz gpz pv cpv gpv wg cwg (fun j => (gwg j).map (sg sa)) wp cwp gwp) sz) U U.heap)) (tq_Q (tq_v (fun (u : (Nat → Option Nat) × (Nat → Int32) × (Nat → Int32) × (Nat → Int64) × (Nat → Int32) × (Nat → Option Nat) × (Nat → Int32) × Int32 × Int32 × Int32 × Int32 × Int32 × Int32 × Int32 × Int32 × Nat × Int32 × Int64) => match u with | (gpg2, gpk2, gpp2, gpv2, gpz2, gwg2, gwp2, h0_open2, h0_place2, h0_reason2, h0_stepCount2, h0_twoSides2, h0_waitingCount2, sc_at2, sc_place2, sc_sign2, sc_size2, sc_value2) => (0 ≤ h0_open2.toInt ∧ h0_open2.toInt ≤ 40) ∧ (0 ≤ h0_stepCount2.toInt ∧ h0_stepCount2.toInt ≤ 4100) ∧ (0 ≤ h0_twoSides2.toInt ∧ h0_twoSides2.toInt ≤ 400) ∧ (0 ≤ h0_waitingCount2.toInt ∧ h0_waitingCount2.toInt ≤ 360) ∧ (-1 ≤ sc_at2.toInt ∧ sc_at2.toInt ≤ 2000) ∧ (0 ≤ sc_place2.toInt ∧ sc_place2.toInt ≤ 2000) ∧ (sc_sign2 < 55) ∧ (0 ≤ sc_size2.toInt ∧ sc_size2.toInt ≤ 2000) ∧ (sk tr_length.toInt sc_length.toInt sc_at2.toInt sc_sign2 sc_place2 sc_size2 sc_value2 gss gsp gszs gsv ∧ pX (16 * h0_open.toInt - 8) (fun S => 0 :: S) (sl gpk gpg gpp gpz gpv h0_stepCount.toInt) (sl gpk2 gpg2 gpp2 gpz2 gpv2 h0_stepCount2.toInt) (20 * sc_place2.toInt - 20 * sc_place.toInt - 10) ∧ h0_open2.toInt = h0_open.toInt ∧ h0_waitingCount2.toInt = h0_waitingCount.toInt ∧ wk h0_waitingCount.toInt gwg gwg2 ∧ sc_place.toInt ≤ sc_place2.toInt)) "java/lang/UnsupportedOperationException" (fun (u : (Nat → Option Nat) × (Nat → Int32) × (Nat → Int32) × (Nat → Int64) × (Nat → Int32) × (Nat → Option Nat) × (Nat → Int32) × Int32 × Int32 × Int32 × Int32 × Int32 × Int32 × Int32 × Int32 × Nat × Int32 × Int64) => match u with | (gpg2, gpk2, gpp2, gpv2, gpz2, gwg2, gwp2, h0_open2, h0_place2, h0_reason2, h0_stepCount2, h0_twoSides2, h0_waitingCount2, sc_at2, sc_place2, sc_sign2, sc_size2, sc_value2) => (0 ≤ h0_open2.toInt ∧ h0_open2.toInt ≤ 40) ∧ (0 ≤ h0_stepCount2.toInt ∧ h0_stepCount2.toInt ≤ 4100) ∧ (0 ≤ h0_twoSides2.toInt ∧ h0_twoSides2.toInt ≤ 400) ∧ (0 ≤ h0_waitingCount2.toInt ∧ h0_waitingCount2.toInt ≤ 360) ∧ (-1 ≤ sc_at2.toInt ∧ sc_at2.toInt ≤ 2000) ∧ (0 ≤ sc_place2.toInt ∧ sc_place2.toInt ≤ 2000) ∧ (sc_sign2 < 55) ∧ (0 ≤ sc_size2.toInt ∧ sc_size2.toInt ≤ 2000))) (at_PR_readU dC dI sa h0 gl fu pa pf sf pk pg pp pz pv sc wg wp tr ss sp szs sv tx css csp cszs csv cpk cpg cpp cpz cpv cwg cwp sc_length tr_length gss gsp gszs gsv (va_A (wz_121 h0 gl fu pa pf sf pk pg pp pz pv h0_reason h0_place sc h0_stepCount h0_open h0_twoSides wg wp h0_waitingCount sc tr (sg sa sc_sign) sc_place sc_size sc_value ss sp szs sv sc_length sc_at tr tx tr_length ss css (fun j => (gss j).map (sg sa)) sp csp gsp szs cszs gszs sv csv gsv pk cpk gpk pg cpg (fun j => (gpg j).map (sg sa)) pp cpp gpp pz cpz gpz pv cpv gpv wg cwg (fun j => (gwg j).map (sg sa)) wp cwp gwp) sz)) (va_A (wz_121 h0 gl fu pa pf sf pk pg pp pz pv h0_reason h0_place sc h0_stepCount h0_open h0_twoSides wg wp h0_waitingCount sc tr (sg sa sc_sign) sc_place sc_size sc_value ss sp szs sv sc_length sc_at tr tx tr_length ss css (fun j => (gss j).map (sg sa)) sp csp gsp szs cszs gszs sv csv gsv pk cpk gpk pg cpg (fun j => (gpg j).map (sg sa)) pp cpp gpp pz cpz gpz pv cpv gpv wg cwg (fun j => (gwg j).map (sg sa)) wp cwp gwp) sz)) (tz_k 0 0 1 6) (va_A (wz_121 h0 gl fu pa pf sf pk pg pp pz pv h0_reason h0_place sc h0_stepCount h0_open h0_twoSides wg wp h0_waitingCount sc tr (sg sa sc_sign) sc_place sc_size sc_value ss sp szs sv sc_length sc_at tr tx tr_length ss css (fun j => (gss j).map (sg sa)) sp csp gsp szs cszs gszs sv csv gsv pk cpk gpk pg cpg (fun j => (gpg j).map (sg sa)) pp cpp gpp pz cpz gpz pv cpv gpv wg cwg (fun j => (gwg j).map (sg sa)) wp cwp gwp) sz) := by
  refine tz_ofW (cc := b_PR_readU) (maxL := 3) (ret := none) (by decide) rfl ?_
  intro p e s m args below meth c s₁ B hml hno hv
  obtain ⟨rfl, hsz, hP, hK, hD0, hSW⟩ := hv
  have hx := B.exec
  have hb := B.bytes
  have hr := B.returns
  have hts0 := atoms_spec (ws := w_PR_readU) B.pre
  have hts : ∀ w ∈ lw_g, w.before _ s = true := fun w h => hts0 w (List.mem_cons_of_mem _ h)
  have hown : s.vm.findClass R_PR = some m.cls := findClass_of_methodNamed B.named
  have hlocks := B.notSynchronized
  clear hts0
  subst hsz
  have hD := hD0.self (sz := s.heap.size)
  generalize hAe : va_A (wz_121 h0 gl fu pa pf sf pk pg pp pz pv h0_reason h0_place sc h0_stepCount h0_open h0_twoSides wg wp h0_waitingCount sc tr (sg sa sc_sign) sc_place sc_size sc_value ss sp szs sv sc_length sc_at tr tx tr_length ss css (fun j => (gss j).map (sg sa)) sp csp gsp szs cszs gszs sv csv gsv pk cpk gpk pg cpg (fun j => (gpg j).map (sg sa)) pp cpp gpp pz cpz gpz pv cpv gpv wg cwg (fun j => (gwg j).map (sg sa)) wp cwp gwp) s.heap.size = A at hD hSW ⊢
  have hA : ∀ q : Nat, s.heap.size ≤ q → A q := fun q h => by rw [← hAe]; exact Or.inr h
  clear hAe
  have hP : va_P (dC, dI) cls (wz_121 h0 gl fu pa pf sf pk pg pp pz pv h0_reason h0_place sc h0_stepCount h0_open h0_twoSides wg wp h0_waitingCount sc tr (sg sa sc_sign) sc_place sc_size sc_value ss sp szs sv sc_length sc_at tr tx tr_length ss css (fun j => (gss j).map (sg sa)) sp csp gsp szs cszs gszs sv csv gsv pk cpk gpk pg cpg (fun j => (gpg j).map (sg sa)) pp cpp gpp pz cpz gpz pv cpv gpv wg cwg (fun j => (gwg j).map (sg sa)) wp cwp gwp) s.heap := hP
  have hl := lv_entry ([.ref h0]) (n := 3) (Nat.le_of_ble_eq_true rfl)
  rw [lg_entry_eq]
  generalize (lg_sl ([.ref h0]) ++ List.replicate (3 - (lg_sl ([.ref h0])).length) Slot.unset).toArray = ls at hl ⊢
  have hl : lv_has ls 3 [(0, .ref h0)] := hl
  have k0 : (0 : Int32).toInt = 0 := by decide
  refine w_gen (A := A) hP (fun H locs hP hS => ?_)
  have k1 : (1 : Int32).toInt = 1 := by decide
  have k4 : (4 : Int32).toInt = 4 := by decide
  have k5 : (5 : Int32).toInt = 5 := by decide
  have k40 : (40 : Int32).toInt = 40 := by decide
  have isk := sk_is hsk
  refine lv_aload_n hx hb d_PR_readU_0 rfl (lv_at hl 0 rfl) ?_
  refine va_get (D := (dC, dI)) (ci := 6) (v := .int h0_waitingCount) (C := R_PR) (T := F_PR) (N := 19) hx hb hts i_PR hown hK hP 0 rfl rfl 18 (by decide) (hts _ kF_PR_87) (fun _ h9 => h9) rfl d_PR_readU_1 ?_
  refine lv_istore_n (lv' := [(1, .int h0_waitingCount), (0, .ref h0)]) hx hb d_PR_readU_4 rfl hl (by decide) rfl (fun ls hl => ?_)
  refine lv_iconst (v := 0) hx hb d_PR_readU_5 (by decide) ?_
  refine lv_istore_n (lv' := [(2, .int 0), (1, .int h0_waitingCount), (0, .ref h0)]) hx hb d_PR_readU_6 rfl hl (by decide) rfl (fun ls hl => ?_)
  refine w_loop (σ := Int32 × (Nat → Option Nat) × (Nat → Int32) × (Nat → Int32) × (Nat → Int64) × (Nat → Int32) × (Nat → Option Nat) × (Nat → Int32) × Int32 × Int32 × Int32 × Int32 × Int32 × Int32 × Int32 × Nat × Int32 × Int64) (fun u H locs ls => match u with | (j7_l2, j7_pg, j7_pk, j7_pp, j7_pv, j7_pz, j7_wg, j7_wp, j7_h0_open, j7_h0_place, j7_h0_reason, j7_h0_stepCount, j7_h0_waitingCount, j7_sc_at, j7_sc_place, j7_sc_sign, j7_sc_size, j7_sc_value) => (0 ≤ j7_h0_open.toInt ∧ j7_h0_open.toInt ≤ 40) ∧ (0 ≤ j7_h0_stepCount.toInt ∧ j7_h0_stepCount.toInt ≤ 4100) ∧ (0 ≤ j7_h0_waitingCount.toInt ∧ j7_h0_waitingCount.toInt ≤ 360) ∧ (-1 ≤ j7_sc_at.toInt ∧ j7_sc_at.toInt ≤ 2000) ∧ (0 ≤ j7_sc_place.toInt ∧ j7_sc_place.toInt ≤ 2000) ∧ (j7_sc_sign < 55) ∧ (0 ≤ j7_sc_size.toInt ∧ j7_sc_size.toInt ≤ 2000) ∧ (sk tr_length.toInt sc_length.toInt j7_sc_at.toInt j7_sc_sign j7_sc_place j7_sc_size j7_sc_value gss gsp gszs gsv) ∧ (h0_waitingCount.toInt ≤ j7_h0_waitingCount.toInt ∧ j7_h0_open.toInt = h0_open.toInt + (j7_h0_waitingCount.toInt - h0_waitingCount.toInt) ∧ sc_place.toInt ≤ j7_sc_place.toInt ∧ 0 ≤ j7_l2.toInt ∧ j7_l2.toInt ≤ 41) ∧ (10 * j7_h0_stepCount.toInt ≤ 20 * j7_sc_place.toInt) ∧ (pX (16 * h0_open.toInt - 8) (fun S => pu j7_wg h0_waitingCount.toInt.toNat (j7_h0_waitingCount.toInt - h0_waitingCount.toInt).toNat S) (sl gpk gpg gpp gpz gpv h0_stepCount.toInt) (sl j7_pk j7_pg j7_pp j7_pz j7_pv j7_h0_stepCount.toInt) (20 * j7_sc_place.toInt - 20 * sc_place.toInt - pq j7_wg h0_waitingCount.toInt.toNat (j7_h0_waitingCount.toInt - h0_waitingCount.toInt).toNat)) ∧ (ps j7_wg h0_waitingCount.toInt.toNat (j7_h0_waitingCount.toInt - h0_waitingCount.toInt).toNat) ∧ (wk h0_waitingCount.toInt gwg j7_wg) ∧ va_P (dC, dI) cls (wz_121 h0 gl fu pa pf sf pk pg pp pz pv j7_h0_reason j7_h0_place sc j7_h0_stepCount j7_h0_open h0_twoSides wg wp j7_h0_waitingCount sc tr (sg sa j7_sc_sign) j7_sc_place j7_sc_size j7_sc_value ss sp szs sv sc_length j7_sc_at tr tx tr_length ss css (fun j => (gss j).map (sg sa)) sp csp gsp szs cszs gszs sv csv gsv pk cpk j7_pk pg cpg (fun j => (j7_pg j).map (sg sa)) pp cpp j7_pp pz cpz j7_pz pv cpv j7_pv wg cwg (fun j => (j7_wg j).map (sg sa)) wp cwp j7_wp) H ∧ va_D A (wz_121 h0 gl fu pa pf sf pk pg pp pz pv j7_h0_reason j7_h0_place sc j7_h0_stepCount j7_h0_open h0_twoSides wg wp j7_h0_waitingCount sc tr (sg sa j7_sc_sign) j7_sc_place j7_sc_size j7_sc_value ss sp szs sv sc_length j7_sc_at tr tx tr_length ss css (fun j => (gss j).map (sg sa)) sp csp gsp szs cszs gszs sv csv gsv pk cpk j7_pk pg cpg (fun j => (j7_pg j).map (sg sa)) pp cpp j7_pp pz cpz j7_pz pv cpv j7_pv wg cwg (fun j => (j7_wg j).map (sg sa)) wp cwp j7_wp) ∧ va_S A s.heap H locs ∧ lv_has ls 3 [(0, .ref h0), (1, .int h0_waitingCount), (2, .int j7_l2)]) (fun u => match u with | (j7_l2, j7_pg, j7_pk, j7_pp, j7_pv, j7_pz, j7_wg, j7_wp, j7_h0_open, j7_h0_place, j7_h0_reason, j7_h0_stepCount, j7_h0_waitingCount, j7_sc_at, j7_sc_place, j7_sc_sign, j7_sc_size, j7_sc_value) => (41 - j7_l2.toInt).toNat) ?_ (0, gpg, gpk, gpp, gpv, gpz, gwg, gwp, h0_open, h0_place, h0_reason, h0_stepCount, h0_waitingCount, sc_at, sc_place, sc_sign, sc_size, sc_value) ⟨b_h0_open, b_h0_stepCount, b_h0_waitingCount, b_sc_at, b_sc_place, b_sc_sign, b_sc_size, hsk, by (try dsimp only) <;> (first | (apply Int.le_antisymm <;> omega) | omega), by (try dsimp only) <;> (first | (apply Int.le_antisymm <;> omega) | omega), pX_mono (pX_eq pX_nil (fun S => (pu_0 (by (first | (apply Int.le_antisymm <;> omega) | omega))).symm)) (Int.le_refl _) (by rw [pq_0 (by (first | (apply Int.le_antisymm <;> omega) | omega))]; (try dsimp only) <;> (first | (apply Int.le_antisymm <;> omega) | omega)), fun j h1 h2 => absurd h2 (by (first | (apply Int.le_antisymm <;> omega) | omega)), wk_refl, hP, hD, hS, lv_sub hl [2, 1, 0] rfl⟩
  intro N7 ih7 u H locs ls hN7 hI
  obtain ⟨j7_l2, j7_pg, j7_pk, j7_pp, j7_pv, j7_pz, j7_wg, j7_wp, j7_h0_open, j7_h0_place, hq9r⟩ := u
  obtain ⟨j7_h0_reason, j7_h0_stepCount, j7_h0_waitingCount, j7_sc_at, j7_sc_place, j7_sc_sign, j7_sc_size, j7_sc_value⟩ := hq9r
  obtain ⟨b_j7_h0_open, b_j7_h0_stepCount, b_j7_h0_waitingCount, b_j7_sc_at, b_j7_sc_place, b_j7_sc_sign, b_j7_sc_size, hsk, v1, v2, hq9r⟩ := hI
  obtain ⟨hX, hps, hwk, hP, hD, hS, hl⟩ := hq9r
  have hN7 : (41 - j7_l2.toInt).toNat < N7 + 1 := hN7
  refine lv_iload_n hx hb d_PR_readU_7 rfl (lv_at hl 2 rfl) ?_
  refine lv_bipush (v := 40) hx hb d_PR_readU_8 (by decide) ?_
  refine w_cut (pc2 := 95) (σ := Unit) (fun u H locs ls => match u with | _ => va_P (dC, dI) cls (wz_121 h0 gl fu pa pf sf pk pg pp pz pv j7_h0_reason j7_h0_place sc j7_h0_stepCount j7_h0_open h0_twoSides wg wp j7_h0_waitingCount sc tr (sg sa j7_sc_sign) j7_sc_place j7_sc_size j7_sc_value ss sp szs sv sc_length j7_sc_at tr tx tr_length ss css (fun j => (gss j).map (sg sa)) sp csp gsp szs cszs gszs sv csv gsv pk cpk j7_pk pg cpg (fun j => (j7_pg j).map (sg sa)) pp cpp j7_pp pz cpz j7_pz pv cpv j7_pv wg cwg (fun j => (j7_wg j).map (sg sa)) wp cwp j7_wp) H ∧ va_D A (wz_121 h0 gl fu pa pf sf pk pg pp pz pv j7_h0_reason j7_h0_place sc j7_h0_stepCount j7_h0_open h0_twoSides wg wp j7_h0_waitingCount sc tr (sg sa j7_sc_sign) j7_sc_place j7_sc_size j7_sc_value ss sp szs sv sc_length j7_sc_at tr tx tr_length ss css (fun j => (gss j).map (sg sa)) sp csp gsp szs cszs gszs sv csv gsv pk cpk j7_pk pg cpg (fun j => (j7_pg j).map (sg sa)) pp cpp j7_pp pz cpz j7_pz pv cpv j7_pv wg cwg (fun j => (j7_wg j).map (sg sa)) wp cwp j7_wp) ∧ va_S A s.heap H locs ∧ lv_has ls 3 [(0, .ref h0), (1, .int h0_waitingCount)]) (fun u => match u with | _ => []) ?_ (fun jn95 => ?_)
  · intro u H locs ls hI
    obtain ⟨hP, hD, hS, hl⟩ := hI
    refine lv_aload_n hx hb d_PR_readU_95 rfl (lv_at hl 0 rfl) ?_
    have hPc := hP.sb (wq := (wz_121 h0 gl fu pa pf sf pk pg pp pz pv j7_h0_reason j7_h0_place sc j7_h0_stepCount j7_h0_open h0_twoSides wg wp j7_h0_waitingCount sc tr (sg sa j7_sc_sign) j7_sc_place j7_sc_size j7_sc_value ss sp szs sv sc_length j7_sc_at tr tx tr_length ss css (fun j => (gss j).map (sg sa)) sp csp gsp szs cszs gszs sv csv gsv pk cpk j7_pk pg cpg (fun j => (j7_pg j).map (sg sa)) pp cpp j7_pp pz cpz j7_pz pv cpv j7_pv wg cwg (fun j => (j7_wg j).map (sg sa)) wp cwp j7_wp)) [0, 1, 2, 3, 4, 5, 6, 7, 8, 9, 10, 11, 12, 13] rfl
    have hDc := hD.sb (wq := (wz_121 h0 gl fu pa pf sf pk pg pp pz pv j7_h0_reason j7_h0_place sc j7_h0_stepCount j7_h0_open h0_twoSides wg wp j7_h0_waitingCount sc tr (sg sa j7_sc_sign) j7_sc_place j7_sc_size j7_sc_value ss sp szs sv sc_length j7_sc_at tr tx tr_length ss css (fun j => (gss j).map (sg sa)) sp csp gsp szs cszs gszs sv csv gsv pk cpk j7_pk pg cpg (fun j => (j7_pg j).map (sg sa)) pp cpp j7_pp pz cpz j7_pz pv cpv j7_pv wg cwg (fun j => (j7_wg j).map (sg sa)) wp cwp j7_wp)) [0, 1, 2, 3, 4, 5, 6, 7, 8, 9, 10, 11, 12, 13] (by decide) rfl
    have hKc := hK.sb (tyq := [(css, .object "WaferForge$Sign"), (csp, .int), (cszs, .int), (csv, .long), (cpk, .int), (cpg, .object "WaferForge$Sign"), (cpp, .int), (cpz, .int), (cpv, .long), (cwg, .object "WaferForge$Sign"), (cwp, .int)]) [0, 1, 2, 3, 4, 5, 6, 7, 8, 9, 10] rfl
    have hFc := va_free (wc := (wz_121 h0 gl fu pa pf sf pk pg pp pz pv j7_h0_reason j7_h0_place sc j7_h0_stepCount j7_h0_open h0_twoSides wg wp j7_h0_waitingCount sc tr (sg sa j7_sc_sign) j7_sc_place j7_sc_size j7_sc_value ss sp szs sv sc_length j7_sc_at tr tx tr_length ss css (fun j => (gss j).map (sg sa)) sp csp gsp szs cszs gszs sv csv gsv pk cpk j7_pk pg cpg (fun j => (j7_pg j).map (sg sa)) pp cpp j7_pp pz cpz j7_pz pv cpv j7_pv wg cwg (fun j => (j7_wg j).map (sg sa)) wp cwp j7_wp)) hD hS hA [0, 1, 2, 3, 4, 5, 6, 7, 8, 9, 10, 11, 12, 13] rfl
    refine tq_callv (tz_runV (As := []) (rest := []) ⟨hx, hb, hml, hown, hts⟩ (c_PR_readOperand l hlt dC dI H.size sa h0 gl fu pa pf sf pk pg pp pz pv sc wg wp tr ss sp szs sv tx css csp cszs csv cpk cpg cpp cpz cpv cwg cwp j7_h0_reason j7_h0_place j7_h0_stepCount j7_h0_open h0_twoSides j7_h0_waitingCount j7_sc_sign j7_sc_place j7_sc_size j7_sc_value sc_length j7_sc_at tr_length gss gsp gszs gsv j7_pk j7_pg j7_pp j7_pz j7_pv j7_wg j7_wp dep hK_readX (b_j7_h0_stepCount) (b_j7_h0_open) (b_h0_twoSides) (b_j7_h0_waitingCount) (b_j7_sc_sign) (b_j7_sc_place) (b_j7_sc_size) (b_sc_length) (b_j7_sc_at) (b_tr_length) (hsk) (by (try dsimp only) <;> (first | (apply Int.le_antisymm <;> omega) | omega)) (by (try dsimp only) <;> (first | (apply Int.le_antisymm <;> omega) | omega)) (by (try dsimp only) <;> (first | (apply Int.le_antisymm <;> omega) | omega)) (by (try dsimp only) <;> (first | (apply Int.le_antisymm <;> omega) | omega))) (cwV 0 hts (gV kM_PR_264 kV_PR_readOperand kS_PR_readOperand kI_PR kC_PR_readOperand) rfl rfl rfl (by decide +kernel) ⟨(show 5 * dep + 18 + 1 ≤ 5 * dep + 19 from by (first | (apply Int.le_antisymm <;> omega) | omega)), (show 8 + (4 + 11) + (120 * dep + 367) ≤ 120 * dep + 390 from by (first | (apply Int.le_antisymm <;> omega) | omega))⟩) ⟨fun a U g mk z => by obtain ⟨z0, z1, zP, zK, zD, zS⟩ := z; exact ⟨z0, z1, zP, va_K.moved (u := U) (U := U.calling g mk a) (Vm.Alike.refl U.vm) zK, zD, sw.same (u := U) (U := U.calling g mk a) rfl zS⟩, va_recv hKc hPc (ci := 6) (q0 := 0) rfl rfl, fun U hU hW => ⟨rfl, by rw [hU], va_P.he hU.symm hPc, va_K.moved hW.alike hKc, hDc.weaken (fun _ _ _ _ => trivial), hSW.call hS hFc hW hU⟩⟩ rfl rfl hl.1 rfl (lv_room (Nat.le_of_ble_eq_true rfl)) d_PR_readU_96 ⟨Nat.le_of_ble_eq_true rfl, Nat.le_of_ble_eq_true rfl⟩) hS (fun q _ h => hFc q h) hFc (fun u t H1 locs ht hvm hw hB hz1 hk1 hS => ?_) (fun xx u t H1 locs ht hvm hw hXX hB hz1 hk1 hS => ?_)
    rotate_left
    · skip
      obtain ⟨n2, n3, n4, n5, n6, n7, n8, n9, n10, n11, hq9r⟩ := u
      obtain ⟨n12, n13, n14, n15, n16, n17, n18, n19⟩ := hq9r
      try dsimp only at hw
      obtain ⟨bn9, bn12, bn13, bn14, bn15, bn16, bn17, bn18⟩ := hw
      obtain ⟨hP1, hK1, hD1⟩ := hB
      replace hP1 := va_P.he ht hP1
      obtain ⟨hP, hD⟩ := va_join (wr := []) (w1 := (wz_121 h0 gl fu pa pf sf pk pg pp pz pv n11 n10 sc n12 n9 n13 wg wp n14 sc tr (sg sa n17) n16 n18 n19 ss sp szs sv sc_length n15 tr tx tr_length ss css (fun j => (gss j).map (sg sa)) sp csp gsp szs cszs gszs sv csv gsv pk cpk n3 pg cpg (fun j => (n2 j).map (sg sa)) pp cpp n4 pz cpz n6 pv cpv n5 wg cwg (fun j => (n7 j).map (sg sa)) wp cwp n8)) hP hD [0, 1, 2, 3, 4, 5, 6, 7, 8, 9, 10, 11, 12, 13] [] rfl rfl (by decide) (by decide) hk1 hFc hP1 hD1
      have hP : va_P (dC, dI) cls (wz_121 h0 gl fu pa pf sf pk pg pp pz pv n11 n10 sc n12 n9 n13 wg wp n14 sc tr (sg sa n17) n16 n18 n19 ss sp szs sv sc_length n15 tr tx tr_length ss css (fun j => (gss j).map (sg sa)) sp csp gsp szs cszs gszs sv csv gsv pk cpk n3 pg cpg (fun j => (n2 j).map (sg sa)) pp cpp n4 pz cpz n6 pv cpv n5 wg cwg (fun j => (n7 j).map (sg sa)) wp cwp n8) H1 := hP
      have hD : va_D A (wz_121 h0 gl fu pa pf sf pk pg pp pz pv n11 n10 sc n12 n9 n13 wg wp n14 sc tr (sg sa n17) n16 n18 n19 ss sp szs sv sc_length n15 tr tx tr_length ss css (fun j => (gss j).map (sg sa)) sp csp gsp szs cszs gszs sv csv gsv pk cpk n3 pg cpg (fun j => (n2 j).map (sg sa)) pp cpp n4 pz cpz n6 pv cpv n5 wg cwg (fun j => (n7 j).map (sg sa)) wp cwp n8) := hD
      have hP9 := hP.sb (wq := (wz_121 h0 gl fu pa pf sf pk pg pp pz pv n11 n10 sc n12 n9 n13 wg wp n14 sc tr (sg sa n17) n16 n18 n19 ss sp szs sv sc_length n15 tr tx tr_length ss css (fun j => (gss j).map (sg sa)) sp csp gsp szs cszs gszs sv csv gsv pk cpk n3 pg cpg (fun j => (n2 j).map (sg sa)) pp cpp n4 pz cpz n6 pv cpv n5 wg cwg (fun j => (n7 j).map (sg sa)) wp cwp n8)) [0, 1, 2, 3, 4, 5, 6, 7, 8, 9, 10, 11, 12, 13] rfl
      have hD9 := hD.sb (wq := (wz_121 h0 gl fu pa pf sf pk pg pp pz pv n11 n10 sc n12 n9 n13 wg wp n14 sc tr (sg sa n17) n16 n18 n19 ss sp szs sv sc_length n15 tr tx tr_length ss css (fun j => (gss j).map (sg sa)) sp csp gsp szs cszs gszs sv csv gsv pk cpk n3 pg cpg (fun j => (n2 j).map (sg sa)) pp cpp n4 pz cpz n6 pv cpv n5 wg cwg (fun j => (n7 j).map (sg sa)) wp cwp n8)) [0, 1, 2, 3, 4, 5, 6, 7, 8, 9, 10, 11, 12, 13] (by decide) rfl
      exact tz_leave rfl hno hlocks (fun t ht hW => ⟨⟨(n2, n3, n4, n5, n6, n7, n8, n9, n10, n11, n12, n13, n14, n15, n16, n17, n18, n19), ⟨⟨bn9, bn12, bn13, bn14, bn15, bn16, bn17, bn18⟩, by rw [ht]; exact hXX.moved hW.alike⟩, va_P.he ht.symm hP9, va_K.moved hW.alike hK, hD9⟩, hS.F ht⟩) hS.2.2
    obtain ⟨n20, n21, n22, n23, n24, n25, n26, n27, n28, n29, hq9r⟩ := u
    obtain ⟨n30, n31, n32, n33, n34, n35, n36, n37⟩ := hq9r
    try dsimp only at hw
    obtain ⟨bn27, bn30, bn31, bn32, bn33, bn34, bn35, bn36, xr1⟩ := hw
    try clear hw
    have or1 := hsk
    obtain ⟨hsk, Xr1, ar1, cr1, wr1, mr1⟩ := xr1
    have nr1 := pX_n Xr1 (by (first | (apply Int.le_antisymm <;> omega) | omega)) (by (first | (apply Int.le_antisymm <;> omega) | omega))
    have dr1 := sk_is hsk
    have e96 : h0_waitingCount.toInt.toNat + (j7_h0_waitingCount.toInt - h0_waitingCount.toInt).toNat = j7_h0_waitingCount.toInt.toNat := by (first | (apply Int.le_antisymm <;> omega) | omega)
    have hX := pX_comp hX Xr1 (fun S q => pu_ls q (by (first | (apply Int.le_antisymm <;> omega) | omega)))
    have p96 := pq_wk wr1 (f := h0_waitingCount.toInt.toNat) (j7_h0_waitingCount.toInt - h0_waitingCount.toInt).toNat (by (first | (apply Int.le_antisymm <;> omega) | omega))
    have b96 := pq_pos (g := j7_wg) (f := h0_waitingCount.toInt.toNat) (j7_h0_waitingCount.toInt - h0_waitingCount.toInt).toNat
    obtain ⟨hP1, hK1, hD1⟩ := hB
    replace hP1 := va_P.he ht hP1
    obtain ⟨hP, hD⟩ := va_join (wr := []) (w1 := (wz_121 h0 gl fu pa pf sf pk pg pp pz pv n29 n28 sc n30 n27 n31 wg wp n32 sc tr (sg sa n35) n34 n36 n37 ss sp szs sv sc_length n33 tr tx tr_length ss css (fun j => (gss j).map (sg sa)) sp csp gsp szs cszs gszs sv csv gsv pk cpk n21 pg cpg (fun j => (n20 j).map (sg sa)) pp cpp n22 pz cpz n24 pv cpv n23 wg cwg (fun j => (n25 j).map (sg sa)) wp cwp n26)) hP hD [0, 1, 2, 3, 4, 5, 6, 7, 8, 9, 10, 11, 12, 13] [] rfl rfl (by decide) (by decide) hk1 hFc hP1 hD1
    clear hPc hDc hKc hFc hz1 hk1 hP1 hK1 hD1
    rename Heap => H
    have hP : va_P (dC, dI) cls (wz_121 h0 gl fu pa pf sf pk pg pp pz pv n29 n28 sc n30 n27 n31 wg wp n32 sc tr (sg sa n35) n34 n36 n37 ss sp szs sv sc_length n33 tr tx tr_length ss css (fun j => (gss j).map (sg sa)) sp csp gsp szs cszs gszs sv csv gsv pk cpk n21 pg cpg (fun j => (n20 j).map (sg sa)) pp cpp n22 pz cpz n24 pv cpv n23 wg cwg (fun j => (n25 j).map (sg sa)) wp cwp n26) H := hP
    have hD : va_D A (wz_121 h0 gl fu pa pf sf pk pg pp pz pv n29 n28 sc n30 n27 n31 wg wp n32 sc tr (sg sa n35) n34 n36 n37 ss sp szs sv sc_length n33 tr tx tr_length ss css (fun j => (gss j).map (sg sa)) sp csp gsp szs cszs gszs sv csv gsv pk cpk n21 pg cpg (fun j => (n20 j).map (sg sa)) pp cpp n22 pz cpz n24 pv cpv n23 wg cwg (fun j => (n25 j).map (sg sa)) wp cwp n26) := hD
    refine w_loop (σ := (Nat → Option Nat) × (Nat → Int32) × (Nat → Int32) × (Nat → Int64) × (Nat → Int32) × Int32 × Int32 × Int32) (fun u H locs ls => match u with | (j99_pg, j99_pk, j99_pp, j99_pv, j99_pz, j99_h0_open, j99_h0_stepCount, j99_h0_waitingCount) => (0 ≤ j99_h0_open.toInt ∧ j99_h0_open.toInt ≤ 40) ∧ (0 ≤ j99_h0_stepCount.toInt ∧ j99_h0_stepCount.toInt ≤ 4100) ∧ (0 ≤ j99_h0_waitingCount.toInt ∧ j99_h0_waitingCount.toInt ≤ 360) ∧ (h0_waitingCount.toInt ≤ j99_h0_waitingCount.toInt ∧ j99_h0_open.toInt = h0_open.toInt + (j99_h0_waitingCount.toInt - h0_waitingCount.toInt) ∧ sc_place.toInt ≤ n34.toInt) ∧ (10 * j99_h0_stepCount.toInt ≤ 20 * n34.toInt) ∧ (pX (16 * h0_open.toInt - 8) (fun S => 0 :: pu n25 h0_waitingCount.toInt.toNat (j99_h0_waitingCount.toInt - h0_waitingCount.toInt).toNat S) (sl gpk gpg gpp gpz gpv h0_stepCount.toInt) (sl j99_pk j99_pg j99_pp j99_pz j99_pv j99_h0_stepCount.toInt) (20 * n34.toInt - 20 * sc_place.toInt - 10 - pq n25 h0_waitingCount.toInt.toNat (j99_h0_waitingCount.toInt - h0_waitingCount.toInt).toNat)) ∧ (ps n25 h0_waitingCount.toInt.toNat (j99_h0_waitingCount.toInt - h0_waitingCount.toInt).toNat) ∧ (wk h0_waitingCount.toInt gwg n25) ∧ va_P (dC, dI) cls (wz_121 h0 gl fu pa pf sf pk pg pp pz pv n29 n28 sc j99_h0_stepCount j99_h0_open n31 wg wp j99_h0_waitingCount sc tr (sg sa n35) n34 n36 n37 ss sp szs sv sc_length n33 tr tx tr_length ss css (fun j => (gss j).map (sg sa)) sp csp gsp szs cszs gszs sv csv gsv pk cpk j99_pk pg cpg (fun j => (j99_pg j).map (sg sa)) pp cpp j99_pp pz cpz j99_pz pv cpv j99_pv wg cwg (fun j => (n25 j).map (sg sa)) wp cwp n26) H ∧ va_D A (wz_121 h0 gl fu pa pf sf pk pg pp pz pv n29 n28 sc j99_h0_stepCount j99_h0_open n31 wg wp j99_h0_waitingCount sc tr (sg sa n35) n34 n36 n37 ss sp szs sv sc_length n33 tr tx tr_length ss css (fun j => (gss j).map (sg sa)) sp csp gsp szs cszs gszs sv csv gsv pk cpk j99_pk pg cpg (fun j => (j99_pg j).map (sg sa)) pp cpp j99_pp pz cpz j99_pz pv cpv j99_pv wg cwg (fun j => (n25 j).map (sg sa)) wp cwp n26) ∧ va_S A s.heap H locs ∧ lv_has ls 3 [(0, .ref h0), (1, .int h0_waitingCount)]) (fun u => match u with | (j99_pg, j99_pk, j99_pp, j99_pv, j99_pz, j99_h0_open, j99_h0_stepCount, j99_h0_waitingCount) => (j99_h0_waitingCount.toInt - h0_waitingCount.toInt).toNat) ?_ (n20, n21, n22, n23, n24, n27, n30, n32) ⟨bn27, bn30, bn32, by (try dsimp only) <;> (first | (apply Int.le_antisymm <;> omega) | omega), by (try dsimp only) <;> (first | (apply Int.le_antisymm <;> omega) | omega), pX_mono (pX_eq hX (fun S => by rw [show (n32.toInt - h0_waitingCount.toInt).toNat = (j7_h0_waitingCount.toInt - h0_waitingCount.toInt).toNat from by (first | (apply Int.le_antisymm <;> omega) | omega), pu_wk wr1 _ (by (first | (apply Int.le_antisymm <;> omega) | omega))])) (Int.le_refl _) (by rw [show (n32.toInt - h0_waitingCount.toInt).toNat = (j7_h0_waitingCount.toInt - h0_waitingCount.toInt).toNat from by (first | (apply Int.le_antisymm <;> omega) | omega)]; (try dsimp only) <;> (first | (apply Int.le_antisymm <;> omega) | omega)), (by rw [show (n32.toInt - h0_waitingCount.toInt).toNat = (j7_h0_waitingCount.toInt - h0_waitingCount.toInt).toNat from by (first | (apply Int.le_antisymm <;> omega) | omega)]; exact ps_wk wr1 (by (first | (apply Int.le_antisymm <;> omega) | omega)) hps), wk_tr hwk wr1 (by (first | (apply Int.le_antisymm <;> omega) | omega)), hP, hD, hS, lv_sub hl [0, 1] rfl⟩
    intro N99 ih99 u H locs ls hN99 hI
    obtain ⟨j99_pg, j99_pk, j99_pp, j99_pv, j99_pz, j99_h0_open, j99_h0_stepCount, j99_h0_waitingCount⟩ := u
    obtain ⟨b_j99_h0_open, b_j99_h0_stepCount, b_j99_h0_waitingCount, u1, u2, hX, hps, hwk, hP, hD, hS, hl⟩ := hI
    have hN99 : (j99_h0_waitingCount.toInt - h0_waitingCount.toInt).toNat < N99 + 1 := hN99
    refine lv_aload_n hx hb d_PR_readU_99 rfl (lv_at hl 0 rfl) ?_
    refine va_get (D := (dC, dI)) (ci := 6) (v := .int j99_h0_waitingCount) (C := R_PR) (T := F_PR) (N := 19) hx hb hts i_PR hown hK hP 0 rfl rfl 18 (by decide) (hts _ kF_PR_87) (fun _ h9 => h9) rfl d_PR_readU_100 ?_
    refine lv_iload_n hx hb d_PR_readU_103 rfl (lv_at hl 1 rfl) ?_
    refine lv_icmp_le (tgt := 155) hx hb d_PR_readU_104 (by decide) (fun c104 => ?_) (fun c104 => ?_)
    · have q104 := leI c104
      have hP9 := hP.sb (wq := (wz_121 h0 gl fu pa pf sf pk pg pp pz pv n29 n28 sc j99_h0_stepCount j99_h0_open n31 wg wp j99_h0_waitingCount sc tr (sg sa n35) n34 n36 n37 ss sp szs sv sc_length n33 tr tx tr_length ss css (fun j => (gss j).map (sg sa)) sp csp gsp szs cszs gszs sv csv gsv pk cpk j99_pk pg cpg (fun j => (j99_pg j).map (sg sa)) pp cpp j99_pp pz cpz j99_pz pv cpv j99_pv wg cwg (fun j => (n25 j).map (sg sa)) wp cwp n26)) [0, 1, 2, 3, 4, 5, 6, 7, 8, 9, 10, 11, 12, 13] rfl
      have hD9 := hD.sb (wq := (wz_121 h0 gl fu pa pf sf pk pg pp pz pv n29 n28 sc j99_h0_stepCount j99_h0_open n31 wg wp j99_h0_waitingCount sc tr (sg sa n35) n34 n36 n37 ss sp szs sv sc_length n33 tr tx tr_length ss css (fun j => (gss j).map (sg sa)) sp csp gsp szs cszs gszs sv csv gsv pk cpk j99_pk pg cpg (fun j => (j99_pg j).map (sg sa)) pp cpp j99_pp pz cpz j99_pz pv cpv j99_pv wg cwg (fun j => (n25 j).map (sg sa)) wp cwp n26)) [0, 1, 2, 3, 4, 5, 6, 7, 8, 9, 10, 11, 12, 13] (by decide) rfl
      exact tz_up (fun _ => rfl) (W.vret hx hb hr (fun t ht hW => ⟨⟨(j99_pg, j99_pk, j99_pp, j99_pv, j99_pz, n25, n26, j99_h0_open, n28, n29, j99_h0_stepCount, n31, j99_h0_waitingCount, n33, n34, n35, n36, n37), ⟨rfl, ⟨b_j99_h0_open, b_j99_h0_stepCount, bn31, b_j99_h0_waitingCount, bn33, bn34, bn35, bn36, ⟨hsk, pX_mono (pX_eq hX (fun S => by rw [pu_0 (by (first | (apply Int.le_antisymm <;> omega) | omega))])) (Int.le_refl _) (by rw [pq_0 (by (first | (apply Int.le_antisymm <;> omega) | omega))]; (try dsimp only) <;> (first | (apply Int.le_antisymm <;> omega) | omega)), by (try dsimp only) <;> (first | (apply Int.le_antisymm <;> omega) | omega), by (try dsimp only) <;> (first | (apply Int.le_antisymm <;> omega) | omega), hwk, by (try dsimp only) <;> (first | (apply Int.le_antisymm <;> omega) | omega)⟩⟩⟩, va_P.he ht.symm hP9, va_K.moved hW.alike hK, hD9⟩, hS.F ht⟩) hS.2.2 d_PR_readU_155)
    · have q104 := nleI c104
      refine lv_aload_n hx hb d_PR_readU_107 rfl (lv_at hl 0 rfl) ?_
      refine lv_dup hx hb d_PR_readU_108 rfl ?_
      refine va_get (D := (dC, dI)) (ci := 6) (v := .int j99_h0_waitingCount) (C := R_PR) (T := F_PR) (N := 19) hx hb hts i_PR hown hK hP 0 rfl rfl 18 (by decide) (hts _ kF_PR_87) (fun _ h9 => h9) rfl d_PR_readU_109 ?_
      refine lv_iconst (v := 1) hx hb d_PR_readU_112 (by decide) ?_
      refine lv_isub hx hb d_PR_readU_113 ?_
      refine lv_topi (fun x38 ex38 => ?_)
      have tx38 : x38.toInt = j99_h0_waitingCount.toInt - 1 := by have z := i32_sub ex38 (by (first | (apply Int.le_antisymm <;> omega) | omega)) (by (first | (apply Int.le_antisymm <;> omega) | omega)); first | exact z | (first | (apply Int.le_antisymm <;> omega) | omega)
      refine va_put (D := (dC, dI)) (ci := 6) (v := .int x38) (ty := .int) (C := R_PR) (T := F_PR) (N := 19) hx hb hts i_PR t_PR t_PR_ok n_PR hown hK hP hD hS 0 rfl rfl 18 (by decide) (hts _ kF_PR_87) (fun _ h9 => h9) rfl (by decide +kernel) rfl rfl (Nat.le_of_ble_eq_true rfl) d_PR_readU_114 (fun H locs hP hD hS => ?_)
      refine lv_aload_n hx hb d_PR_readU_117 rfl (lv_at hl 0 rfl) ?_
      refine lv_iconst (v := 5) hx hb d_PR_readU_118 (by decide) ?_
      refine lv_aload_n hx hb d_PR_readU_119 rfl (lv_at hl 0 rfl) ?_
      refine va_get (D := (dC, dI)) (ci := 6) (v := .ref wg) (C := R_PR) (T := F_PR) (N := 19) hx hb hts i_PR hown hK hP 0 rfl rfl 16 (by decide) (hts _ kF_PR_37) (fun _ h9 => h9) rfl d_PR_readU_120 ?_
      refine lv_aload_n hx hb d_PR_readU_123 rfl (lv_at hl 0 rfl) ?_
      refine va_get (D := (dC, dI)) (ci := 6) (v := .int x38) (C := R_PR) (T := F_PR) (N := 19) hx hb hts i_PR hown hK hP 0 rfl rfl 18 (by decide) (hts _ kF_PR_87) (fun _ h9 => h9) rfl d_PR_readU_124 ?_
      have g127 : vp_in x38 360 := vp_in_iff.mpr ⟨by (first | (apply Int.le_antisymm <;> omega) | omega), by (first | (apply Int.le_antisymm <;> omega) | omega)⟩
      obtain ⟨k39, hk39, ek39⟩ : ∃ z : Nat, z < 55 ∧ n25 x38.toNatClampNeg = some z := by obtain ⟨k9, h9, h8⟩ := hps x38.toNatClampNeg (by have := i32_clamp (x := x38) (by (first | (apply Int.le_antisymm <;> omega) | omega)); (first | (apply Int.le_antisymm <;> omega) | omega)) (by have := i32_clamp (x := x38) (by (first | (apply Int.le_antisymm <;> omega) | omega)); (first | (apply Int.le_antisymm <;> omega) | omega)); exact ⟨k9, by (first | (apply Int.le_antisymm <;> omega) | omega), h9⟩
      refine va_aldq hx hb hK hP 12 9 rfl rfl g127 d_PR_readU_127 ?_
      refine w_top (v2 := .ref (sg sa k39)) (by show va_rf ((n25 x38.toNatClampNeg).map (sg sa)) = _; rw [ek39]; rfl) ?_
      have h127 : n25 (h0_waitingCount.toInt.toNat + (x38.toInt - h0_waitingCount.toInt).toNat) = some k39 := by have := i32_clamp (x := x38) (by (first | (apply Int.le_antisymm <;> omega) | omega)); rw [show h0_waitingCount.toInt.toNat + (x38.toInt - h0_waitingCount.toInt).toNat = x38.toNatClampNeg from by (first | (apply Int.le_antisymm <;> omega) | omega)]; exact ek39
      refine lv_aload_n hx hb d_PR_readU_128 rfl (lv_at hl 0 rfl) ?_
      refine va_get (D := (dC, dI)) (ci := 6) (v := .ref wp) (C := R_PR) (T := F_PR) (N := 19) hx hb hts i_PR hown hK hP 0 rfl rfl 17 (by decide) (hts _ kF_PR_40) (fun _ h9 => h9) rfl d_PR_readU_129 ?_
      refine lv_aload_n hx hb d_PR_readU_132 rfl (lv_at hl 0 rfl) ?_
      refine va_get (D := (dC, dI)) (ci := 6) (v := .int x38) (C := R_PR) (T := F_PR) (N := 19) hx hb hts i_PR hown hK hP 0 rfl rfl 18 (by decide) (hts _ kF_PR_87) (fun _ h9 => h9) rfl d_PR_readU_133 ?_
      have g136 : vp_in x38 360 := vp_in_iff.mpr ⟨by (first | (apply Int.le_antisymm <;> omega) | omega), by (first | (apply Int.le_antisymm <;> omega) | omega)⟩
      refine va_iald hx hb hK hP 13 10 rfl rfl g136 d_PR_readU_136 ?_
      refine lv_topi (fun x40 ex40 => ?_)
      refine lv_iconst (v := 0) hx hb d_PR_readU_137 (by decide) ?_
      refine lv_lconst (v := 0) hx hb d_PR_readU_138 (by decide) ?_
      have kl0 : (0 : Int64).toInt = 0 := by decide
      have hPc := hP.sb (wq := (wz_114 h0 gl fu pa pf sf pk pg pp pz pv n29 n28 sc j99_h0_stepCount j99_h0_open n31 wg wp x38 pk cpk j99_pk pg cpg (fun j => (j99_pg j).map (sg sa)) pp cpp j99_pp pz cpz j99_pz pv cpv j99_pv)) [0, 7, 8, 9, 10, 11] rfl
      have hDc := hD.sb (wq := (wz_114 h0 gl fu pa pf sf pk pg pp pz pv n29 n28 sc j99_h0_stepCount j99_h0_open n31 wg wp x38 pk cpk j99_pk pg cpg (fun j => (j99_pg j).map (sg sa)) pp cpp j99_pp pz cpz j99_pz pv cpv j99_pv)) [0, 7, 8, 9, 10, 11] (by decide) rfl
      have hKc := hK.sb (tyq := [(cpk, .int), (cpg, .object "WaferForge$Sign"), (cpp, .int), (cpz, .int), (cpv, .long)]) [4, 5, 6, 7, 8] rfl
      have hFc := va_free (wc := (wz_114 h0 gl fu pa pf sf pk pg pp pz pv n29 n28 sc j99_h0_stepCount j99_h0_open n31 wg wp x38 pk cpk j99_pk pg cpg (fun j => (j99_pg j).map (sg sa)) pp cpp j99_pp pz cpz j99_pz pv cpv j99_pv)) hD hS hA [0, 7, 8, 9, 10, 11] rfl
      refine va_callv (va_runV (As := [.int 5, .ref (sg sa k39), .int x40, .int 0, .long 0]) (rest := []) ⟨hx, hb, hml, hown, hts⟩ (c_PR_add l dC dI H.size sa h0 gl fu pa pf sf pk pg pp pz pv sc wg wp cpk cpg cpp cpz cpv n29 n28 j99_h0_stepCount j99_h0_open n31 x38 j99_pk j99_pg j99_pp j99_pz j99_pv (b_j99_h0_stepCount) 5 k39 x40 0 0 (hk39) (by (try dsimp only) <;> (first | (apply Int.le_antisymm <;> omega) | omega))) (cwV 5 hts (gV kM_PR_187 kV_PR_add kS_PR_add kI_PR kC_PR_add) rfl rfl rfl (by decide +kernel) ⟨(show 0 + 1 ≤ 5 * dep + 19 from by (first | (apply Int.le_antisymm <;> omega) | omega)), (show 8 + (7 + 11) + (0) ≤ 120 * dep + 390 from by (first | (apply Int.le_antisymm <;> omega) | omega))⟩) ⟨fun a U g mk z => by obtain ⟨z0, z1, zP, zK, zD, zS⟩ := z; exact ⟨z0, z1, zP, va_K.moved (u := U) (U := U.calling g mk a) (Vm.Alike.refl U.vm) zK, zD, sw.same (u := U) (U := U.calling g mk a) rfl zS⟩, va_recv hKc hPc (ci := 6) (q0 := 0) rfl rfl, fun U hU hW => ⟨rfl, by rw [hU], va_P.he hU.symm hPc, va_K.moved hW.alike hKc, hDc.weaken (fun _ _ _ _ => trivial), hSW.call hS hFc hW hU⟩⟩ rfl rfl hl.1 rfl (lv_room (Nat.le_of_ble_eq_true rfl)) d_PR_readU_139 ⟨(Nat.zero_le _), (Nat.zero_le _)⟩) hS (fun q _ h => hFc q h) hFc (fun u t H1 locs ht hvm hw hB hz1 hk1 hS => ?_)
      obtain ⟨n42, n43, n44, n45, n46, n47⟩ := u
      try dsimp only at hw
      obtain ⟨bn47, xr41⟩ := hw
      try clear hw
      have sr41 := xr41.1
      have Lr41 := xr41.2
      clear xr41
      obtain ⟨hP1, hK1, hD1⟩ := hB
      replace hP1 := va_P.he ht hP1
      obtain ⟨hP, hD⟩ := va_join (wr := (wz_130 sc tr (sg sa n35) n34 n36 n37 ss sp szs sv sc_length n33 tr tx tr_length ss css (fun j => (gss j).map (sg sa)) sp csp gsp szs cszs gszs sv csv gsv wg cwg (fun j => (n25 j).map (sg sa)) wp cwp n26)) (w1 := (wz_114 h0 gl fu pa pf sf pk pg pp pz pv n29 n28 sc n47 j99_h0_open n31 wg wp x38 pk cpk n43 pg cpg (fun j => (n42 j).map (sg sa)) pp cpp n44 pz cpz n46 pv cpv n45)) hP hD [0, 7, 8, 9, 10, 11] [1, 2, 3, 4, 5, 6, 12, 13] rfl rfl (by decide) (by decide) hk1 hFc hP1 hD1
      clear hPc hDc hKc hFc hz1 hk1 hP1 hK1 hD1
      rename Heap => H
      have hP : va_P (dC, dI) cls (wz_131 sc tr (sg sa n35) n34 n36 n37 ss sp szs sv sc_length n33 tr tx tr_length ss css (fun j => (gss j).map (sg sa)) sp csp gsp szs cszs gszs sv csv gsv wg cwg (fun j => (n25 j).map (sg sa)) wp cwp n26 h0 gl fu pa pf sf pk pg pp pz pv n29 n28 sc n47 j99_h0_open n31 wg wp x38 pk cpk n43 pg cpg (fun j => (n42 j).map (sg sa)) pp cpp n44 pz cpz n46 pv cpv n45) H := hP
      have hD : va_D A (wz_131 sc tr (sg sa n35) n34 n36 n37 ss sp szs sv sc_length n33 tr tx tr_length ss css (fun j => (gss j).map (sg sa)) sp csp gsp szs cszs gszs sv csv gsv wg cwg (fun j => (n25 j).map (sg sa)) wp cwp n26 h0 gl fu pa pf sf pk pg pp pz pv n29 n28 sc n47 j99_h0_open n31 wg wp x38 pk cpk n43 pg cpg (fun j => (n42 j).map (sg sa)) pp cpp n44 pz cpz n46 pv cpv n45) := hD
      refine lv_aload_n hx hb d_PR_readU_142 rfl (lv_at hl 0 rfl) ?_
      refine lv_dup hx hb d_PR_readU_143 rfl ?_
      refine va_get (D := (dC, dI)) (ci := 6) (v := .int j99_h0_open) (C := R_PR) (T := F_PR) (N := 19) hx hb hts i_PR hown hK hP 8 rfl rfl 14 (by decide) (hts _ kF_PR_84) (fun _ h9 => h9) rfl d_PR_readU_144 ?_
      refine lv_iconst (v := 1) hx hb d_PR_readU_147 (by decide) ?_
      refine lv_isub hx hb d_PR_readU_148 ?_
      refine lv_topi (fun x48 ex48 => ?_)
      have tx48 : x48.toInt = j99_h0_open.toInt - 1 := by have z := i32_sub ex48 (by (first | (apply Int.le_antisymm <;> omega) | omega)) (by (first | (apply Int.le_antisymm <;> omega) | omega)); first | exact z | (first | (apply Int.le_antisymm <;> omega) | omega)
      refine va_put (D := (dC, dI)) (ci := 6) (v := .int x48) (ty := .int) (C := R_PR) (T := F_PR) (N := 19) hx hb hts i_PR t_PR t_PR_ok n_PR hown hK hP hD hS 8 rfl rfl 14 (by decide) (hts _ kF_PR_84) (fun _ h9 => h9) rfl (by decide +kernel) rfl rfl (Nat.le_of_ble_eq_true rfl) d_PR_readU_149 (fun H locs hP hD hS => ?_)
      refine lv_goto (tgt := 99) hx hb d_PR_readU_152 (by decide) ?_
      have hX8 := pX_pre (i2 := (x38.toInt - h0_waitingCount.toInt).toNat) hX Lr41 (by (first | (apply Int.le_antisymm <;> omega) | omega)) h127 hps (by (first | (apply Int.le_antisymm <;> omega) | omega))
      have n9 := pX_n hX8 (by (first | (apply Int.le_antisymm <;> omega) | omega)) (by (first | (apply Int.le_antisymm <;> omega) | omega))
      have b9 := pq_pos (g := n25) (f := h0_waitingCount.toInt.toNat) (x38.toInt - h0_waitingCount.toInt).toNat
      exact ih99 (n42, n43, n44, n45, n46, x48, n47, x38) _ _ _ (by show (x38.toInt - h0_waitingCount.toInt).toNat < N99; (first | (apply Int.le_antisymm <;> omega) | omega)) ⟨by (try dsimp only) <;> (first | (apply Int.le_antisymm <;> omega) | omega), bn47, by (try dsimp only) <;> (first | (apply Int.le_antisymm <;> omega) | omega), by (try dsimp only) <;> (first | (apply Int.le_antisymm <;> omega) | omega), by (try dsimp only) <;> (first | (apply Int.le_antisymm <;> omega) | omega), hX8, fun j h1 h2 => hps j h1 (by (first | (apply Int.le_antisymm <;> omega) | omega)), hwk, hP.sub [8, 0, 1, 2, 3, 4, 5, 9, 10, 11, 12, 13, 6, 7] rfl, hD.sub [8, 0, 1, 2, 3, 4, 5, 9, 10, 11, 12, 13, 6, 7] (by decide) rfl, hS, lv_sub hl [0, 1] rfl⟩
  · skip
    refine lv_icmp_gt (tgt := 95) hx hb d_PR_readU_10 (by decide) (fun c10 => ?_) (fun c10 => ?_)
    · have q10 := ltI c10
      exact jn95 () _ _ _ ⟨hP, hD, hS, lv_sub hl [0, 1] rfl⟩
    · have q10 := nltI c10
      refine lv_aload_n hx hb d_PR_readU_13 rfl (lv_at hl 0 rfl) ?_
      refine va_get (D := (dC, dI)) (ci := 6) (v := .ref sc) (C := R_PR) (T := F_PR) (N := 19) hx hb hts i_PR hown hK hP 0 rfl rfl 12 (by decide) (hts _ kF_PR_43) (fun _ h9 => h9) rfl d_PR_readU_14 ?_
      refine va_get (D := (dC, dI)) (ci := 8) (v := .ref (sg sa j7_sc_sign)) (C := R_SC) (T := F_SC) (N := 11) hx hb hts i_SC hown hK hP 1 rfl rfl 1 (by decide) (hts _ kF_PR_93) (fun _ h9 => h9) rfl d_PR_readU_17 ?_
      have hPc := hP.sb (wq := []) [] rfl
      have hDc := hD.sb (wq := []) [] (by decide) rfl
      have hKc := hK.sb (tyq := []) [] rfl
      have hFc := va_free (wc := []) hD hS hA [] rfl
      refine va_calli (va_runV (As := []) (rest := []) ⟨hx, hb, hml, hown, hts⟩ (c_SG_isPrefix l dC dI H.size sa j7_sc_sign b_j7_sc_sign ) (cwV 0 hts (gV kM_PR_261 kV_SG_isPrefix kS_SG_isPrefix kI_SG kC_SG_isPrefix) rfl rfl rfl (by decide +kernel) ⟨(show 0 + 1 ≤ 5 * dep + 19 from by (first | (apply Int.le_antisymm <;> omega) | omega)), (show 8 + (1 + 11) + (0) ≤ 120 * dep + 390 from by (first | (apply Int.le_antisymm <;> omega) | omega))⟩) ⟨fun a U g mk z => by obtain ⟨z0, z1, zP, zK, zD, zS⟩ := z; exact ⟨z0, z1, zP, va_K.moved (u := U) (U := U.calling g mk a) (Vm.Alike.refl U.vm) zK, zD, sw.same (u := U) (U := U.calling g mk a) rfl zS⟩, va_recvE (i := j7_sc_sign) hSW.2.2.2.1 b_j7_sc_sign hS, fun U hU hW => ⟨rfl, by rw [hU], va_P.he hU.symm hPc, va_K.moved hW.alike hKc, hDc.weaken (fun _ _ _ _ => trivial), hSW.call hS hFc hW hU⟩⟩ rfl rfl hl.1 rfl (lv_room (Nat.le_of_ble_eq_true rfl)) d_PR_readU_20 ⟨(Nat.zero_le _), (Nat.zero_le _)⟩) hS (fun q _ h => hFc q h) hFc (fun r49 u t H1 locs ht hvm hw hB hz1 hk1 hS => ?_)
      try dsimp only at hw
      obtain ⟨br49, xr49⟩ := hw
      try clear hw
      have tr49 := b01 br49
      obtain ⟨hP1, hK1, hD1⟩ := hB
      replace hP1 := va_P.he ht hP1
      obtain ⟨hP, hD⟩ := va_join (wr := (wz_121 h0 gl fu pa pf sf pk pg pp pz pv j7_h0_reason j7_h0_place sc j7_h0_stepCount j7_h0_open h0_twoSides wg wp j7_h0_waitingCount sc tr (sg sa j7_sc_sign) j7_sc_place j7_sc_size j7_sc_value ss sp szs sv sc_length j7_sc_at tr tx tr_length ss css (fun j => (gss j).map (sg sa)) sp csp gsp szs cszs gszs sv csv gsv pk cpk j7_pk pg cpg (fun j => (j7_pg j).map (sg sa)) pp cpp j7_pp pz cpz j7_pz pv cpv j7_pv wg cwg (fun j => (j7_wg j).map (sg sa)) wp cwp j7_wp)) (w1 := []) hP hD [] [0, 1, 2, 3, 4, 5, 6, 7, 8, 9, 10, 11, 12, 13] rfl rfl (by decide) (by decide) hk1 hFc hP1 hD1
      clear hPc hDc hKc hFc hz1 hk1 hP1 hK1 hD1
      rename Heap => H
      have hP : va_P (dC, dI) cls (wz_121 h0 gl fu pa pf sf pk pg pp pz pv j7_h0_reason j7_h0_place sc j7_h0_stepCount j7_h0_open h0_twoSides wg wp j7_h0_waitingCount sc tr (sg sa j7_sc_sign) j7_sc_place j7_sc_size j7_sc_value ss sp szs sv sc_length j7_sc_at tr tx tr_length ss css (fun j => (gss j).map (sg sa)) sp csp gsp szs cszs gszs sv csv gsv pk cpk j7_pk pg cpg (fun j => (j7_pg j).map (sg sa)) pp cpp j7_pp pz cpz j7_pz pv cpv j7_pv wg cwg (fun j => (j7_wg j).map (sg sa)) wp cwp j7_wp) H := hP
      have hD : va_D A (wz_121 h0 gl fu pa pf sf pk pg pp pz pv j7_h0_reason j7_h0_place sc j7_h0_stepCount j7_h0_open h0_twoSides wg wp j7_h0_waitingCount sc tr (sg sa j7_sc_sign) j7_sc_place j7_sc_size j7_sc_value ss sp szs sv sc_length j7_sc_at tr tx tr_length ss css (fun j => (gss j).map (sg sa)) sp csp gsp szs cszs gszs sv csv gsv pk cpk j7_pk pg cpg (fun j => (j7_pg j).map (sg sa)) pp cpp j7_pp pz cpz j7_pz pv cpv j7_pv wg cwg (fun j => (j7_wg j).map (sg sa)) wp cwp j7_wp) := hD
      refine lv_if_eq (tgt := 95) hx hb d_PR_readU_23 (by decide) (fun c23 => ?_) (fun c23 => ?_)
      · have q23 := eqI c23
        exact jn95 () _ _ _ ⟨hP, hD, hS, lv_sub hl [0, 1] rfl⟩
      · have q23 := neI c23
        have kk := xr49.1 (by rcases br49 with z | z; (exfalso; rw [z] at q23; exact q23 rfl); exact z)
        have kk : j7_sc_sign = 34 ∨ j7_sc_sign = 35 ∨ j7_sc_sign = 51 := by (first | (apply Int.le_antisymm <;> omega) | omega)
        have b7 := pq_pos (g := j7_wg) (f := h0_waitingCount.toInt.toNat) (j7_h0_waitingCount.toInt - h0_waitingCount.toInt).toNat
        refine lv_aload_n hx hb d_PR_readU_26 rfl (lv_at hl 0 rfl) ?_
        have hPc := hP.sb (wq := (wz_111 h0 gl fu pa pf sf pk pg pp pz pv j7_h0_reason j7_h0_place sc j7_h0_stepCount j7_h0_open h0_twoSides wg wp j7_h0_waitingCount sc tr (sg sa j7_sc_sign) j7_sc_place j7_sc_size j7_sc_value ss sp szs sv sc_length j7_sc_at)) [0, 1] rfl
        have hDc := hD.sb (wq := (wz_111 h0 gl fu pa pf sf pk pg pp pz pv j7_h0_reason j7_h0_place sc j7_h0_stepCount j7_h0_open h0_twoSides wg wp j7_h0_waitingCount sc tr (sg sa j7_sc_sign) j7_sc_place j7_sc_size j7_sc_value ss sp szs sv sc_length j7_sc_at)) [0, 1] (by decide) rfl
        have hKc := hK.sb (tyq := []) [] rfl
        have hFc := va_free (wc := (wz_111 h0 gl fu pa pf sf pk pg pp pz pv j7_h0_reason j7_h0_place sc j7_h0_stepCount j7_h0_open h0_twoSides wg wp j7_h0_waitingCount sc tr (sg sa j7_sc_sign) j7_sc_place j7_sc_size j7_sc_value ss sp szs sv sc_length j7_sc_at)) hD hS hA [0, 1] rfl
        refine tq_callv (tz_runV (As := []) (rest := []) ⟨hx, hb, hml, hown, hts⟩ (c_PR_enter l hlt dC dI H.size sa h0 gl fu pa pf sf pk pg pp pz pv sc wg wp tr ss sp szs sv j7_h0_reason j7_h0_place j7_h0_stepCount j7_h0_open h0_twoSides j7_h0_waitingCount j7_sc_sign j7_sc_place j7_sc_size j7_sc_value sc_length j7_sc_at (b_j7_h0_open) (b_j7_sc_sign) (b_j7_sc_place)) (cwV 0 hts (gV kM_PR_184 kV_PR_enter kS_PR_enter kI_PR kC_PR_enter) rfl rfl rfl (by decide +kernel) ⟨(show 8 + 1 ≤ 5 * dep + 19 from by (first | (apply Int.le_antisymm <;> omega) | omega)), (show 8 + (1 + 11) + (132) ≤ 120 * dep + 390 from by (first | (apply Int.le_antisymm <;> omega) | omega))⟩) ⟨fun a U g mk z => by obtain ⟨z0, z1, zP, zK, zD, zS⟩ := z; exact ⟨z0, z1, zP, va_K.moved (u := U) (U := U.calling g mk a) (Vm.Alike.refl U.vm) zK, zD, sw.same (u := U) (U := U.calling g mk a) rfl zS⟩, va_recv hKc hPc (ci := 6) (q0 := 0) rfl rfl, fun U hU hW => ⟨rfl, by rw [hU], va_P.he hU.symm hPc, va_K.moved hW.alike hKc, hDc.weaken (fun _ _ _ _ => trivial), hSW.call hS hFc hW hU⟩⟩ rfl rfl hl.1 rfl (lv_room (Nat.le_of_ble_eq_true rfl)) d_PR_readU_27 ⟨Nat.le_of_ble_eq_true rfl, Nat.le_of_ble_eq_true rfl⟩) hS (fun q _ h => hFc q h) hFc (fun u t H1 locs ht hvm hw hB hz1 hk1 hS => ?_) (fun xx u t H1 locs ht hvm hw hXX hB hz1 hk1 hS => ?_)
        rotate_left
        · skip
          obtain ⟨n51, n52, n53⟩ := u
          try dsimp only at hw
          have bn51 := hw
          obtain ⟨hP1, hK1, hD1⟩ := hB
          replace hP1 := va_P.he ht hP1
          obtain ⟨hP, hD⟩ := va_join (wr := (wz_124 tr tx tr_length ss css (fun j => (gss j).map (sg sa)) sp csp gsp szs cszs gszs sv csv gsv pk cpk j7_pk pg cpg (fun j => (j7_pg j).map (sg sa)) pp cpp j7_pp pz cpz j7_pz pv cpv j7_pv wg cwg (fun j => (j7_wg j).map (sg sa)) wp cwp j7_wp)) (w1 := (wz_111 h0 gl fu pa pf sf pk pg pp pz pv n53 n52 sc j7_h0_stepCount n51 h0_twoSides wg wp j7_h0_waitingCount sc tr (sg sa j7_sc_sign) j7_sc_place j7_sc_size j7_sc_value ss sp szs sv sc_length j7_sc_at)) hP hD [0, 1] [2, 3, 4, 5, 6, 7, 8, 9, 10, 11, 12, 13] rfl rfl (by decide) (by decide) hk1 hFc hP1 hD1
          have hP : va_P (dC, dI) cls (wz_125 tr tx tr_length ss css (fun j => (gss j).map (sg sa)) sp csp gsp szs cszs gszs sv csv gsv pk cpk j7_pk pg cpg (fun j => (j7_pg j).map (sg sa)) pp cpp j7_pp pz cpz j7_pz pv cpv j7_pv wg cwg (fun j => (j7_wg j).map (sg sa)) wp cwp j7_wp h0 gl fu pa pf sf pk pg pp pz pv n53 n52 sc j7_h0_stepCount n51 h0_twoSides wg wp j7_h0_waitingCount sc tr (sg sa j7_sc_sign) j7_sc_place j7_sc_size j7_sc_value ss sp szs sv sc_length j7_sc_at) H1 := hP
          have hD : va_D A (wz_125 tr tx tr_length ss css (fun j => (gss j).map (sg sa)) sp csp gsp szs cszs gszs sv csv gsv pk cpk j7_pk pg cpg (fun j => (j7_pg j).map (sg sa)) pp cpp j7_pp pz cpz j7_pz pv cpv j7_pv wg cwg (fun j => (j7_wg j).map (sg sa)) wp cwp j7_wp h0 gl fu pa pf sf pk pg pp pz pv n53 n52 sc j7_h0_stepCount n51 h0_twoSides wg wp j7_h0_waitingCount sc tr (sg sa j7_sc_sign) j7_sc_place j7_sc_size j7_sc_value ss sp szs sv sc_length j7_sc_at) := hD
          have hP9 := hP.sb (wq := (wz_121 h0 gl fu pa pf sf pk pg pp pz pv n53 n52 sc j7_h0_stepCount n51 h0_twoSides wg wp j7_h0_waitingCount sc tr (sg sa j7_sc_sign) j7_sc_place j7_sc_size j7_sc_value ss sp szs sv sc_length j7_sc_at tr tx tr_length ss css (fun j => (gss j).map (sg sa)) sp csp gsp szs cszs gszs sv csv gsv pk cpk j7_pk pg cpg (fun j => (j7_pg j).map (sg sa)) pp cpp j7_pp pz cpz j7_pz pv cpv j7_pv wg cwg (fun j => (j7_wg j).map (sg sa)) wp cwp j7_wp)) [12, 13, 0, 1, 2, 3, 4, 5, 6, 7, 8, 9, 10, 11] rfl
          have hD9 := hD.sb (wq := (wz_121 h0 gl fu pa pf sf pk pg pp pz pv n53 n52 sc j7_h0_stepCount n51 h0_twoSides wg wp j7_h0_waitingCount sc tr (sg sa j7_sc_sign) j7_sc_place j7_sc_size j7_sc_value ss sp szs sv sc_length j7_sc_at tr tx tr_length ss css (fun j => (gss j).map (sg sa)) sp csp gsp szs cszs gszs sv csv gsv pk cpk j7_pk pg cpg (fun j => (j7_pg j).map (sg sa)) pp cpp j7_pp pz cpz j7_pz pv cpv j7_pv wg cwg (fun j => (j7_wg j).map (sg sa)) wp cwp j7_wp)) [12, 13, 0, 1, 2, 3, 4, 5, 6, 7, 8, 9, 10, 11] (by decide) rfl
          exact tz_leave rfl hno hlocks (fun t ht hW => ⟨⟨(j7_pg, j7_pk, j7_pp, j7_pv, j7_pz, j7_wg, j7_wp, n51, n52, n53, j7_h0_stepCount, h0_twoSides, j7_h0_waitingCount, j7_sc_at, j7_sc_place, j7_sc_sign, j7_sc_size, j7_sc_value), ⟨⟨bn51, b_j7_h0_stepCount, b_h0_twoSides, b_j7_h0_waitingCount, b_j7_sc_at, b_j7_sc_place, b_j7_sc_sign, b_j7_sc_size⟩, by rw [ht]; exact hXX.moved hW.alike⟩, va_P.he ht.symm hP9, va_K.moved hW.alike hK, hD9⟩, hS.F ht⟩) hS.2.2
        obtain ⟨n54, n55, n56⟩ := u
        try dsimp only at hw
        obtain ⟨bn54, xr50⟩ := hw
        try clear hw
        obtain ⟨hP1, hK1, hD1⟩ := hB
        replace hP1 := va_P.he ht hP1
        obtain ⟨hP, hD⟩ := va_join (wr := (wz_124 tr tx tr_length ss css (fun j => (gss j).map (sg sa)) sp csp gsp szs cszs gszs sv csv gsv pk cpk j7_pk pg cpg (fun j => (j7_pg j).map (sg sa)) pp cpp j7_pp pz cpz j7_pz pv cpv j7_pv wg cwg (fun j => (j7_wg j).map (sg sa)) wp cwp j7_wp)) (w1 := (wz_111 h0 gl fu pa pf sf pk pg pp pz pv n56 n55 sc j7_h0_stepCount n54 h0_twoSides wg wp j7_h0_waitingCount sc tr (sg sa j7_sc_sign) j7_sc_place j7_sc_size j7_sc_value ss sp szs sv sc_length j7_sc_at)) hP hD [0, 1] [2, 3, 4, 5, 6, 7, 8, 9, 10, 11, 12, 13] rfl rfl (by decide) (by decide) hk1 hFc hP1 hD1
        clear hPc hDc hKc hFc hz1 hk1 hP1 hK1 hD1
        rename Heap => H
        have hP : va_P (dC, dI) cls (wz_125 tr tx tr_length ss css (fun j => (gss j).map (sg sa)) sp csp gsp szs cszs gszs sv csv gsv pk cpk j7_pk pg cpg (fun j => (j7_pg j).map (sg sa)) pp cpp j7_pp pz cpz j7_pz pv cpv j7_pv wg cwg (fun j => (j7_wg j).map (sg sa)) wp cwp j7_wp h0 gl fu pa pf sf pk pg pp pz pv n56 n55 sc j7_h0_stepCount n54 h0_twoSides wg wp j7_h0_waitingCount sc tr (sg sa j7_sc_sign) j7_sc_place j7_sc_size j7_sc_value ss sp szs sv sc_length j7_sc_at) H := hP
        have hD : va_D A (wz_125 tr tx tr_length ss css (fun j => (gss j).map (sg sa)) sp csp gsp szs cszs gszs sv csv gsv pk cpk j7_pk pg cpg (fun j => (j7_pg j).map (sg sa)) pp cpp j7_pp pz cpz j7_pz pv cpv j7_pv wg cwg (fun j => (j7_wg j).map (sg sa)) wp cwp j7_wp h0 gl fu pa pf sf pk pg pp pz pv n56 n55 sc j7_h0_stepCount n54 h0_twoSides wg wp j7_h0_waitingCount sc tr (sg sa j7_sc_sign) j7_sc_place j7_sc_size j7_sc_value ss sp szs sv sc_length j7_sc_at) := hD
        refine lv_aload_n hx hb d_PR_readU_30 rfl (lv_at hl 0 rfl) ?_
        refine va_get (D := (dC, dI)) (ci := 6) (v := .ref sc) (C := R_PR) (T := F_PR) (N := 19) hx hb hts i_PR hown hK hP 12 rfl rfl 12 (by decide) (hts _ kF_PR_43) (fun _ h9 => h9) rfl d_PR_readU_31 ?_
        refine va_get (D := (dC, dI)) (ci := 8) (v := .ref (sg sa j7_sc_sign)) (C := R_SC) (T := F_SC) (N := 11) hx hb hts i_SC hown hK hP 13 rfl rfl 1 (by decide) (hts _ kF_PR_93) (fun _ h9 => h9) rfl d_PR_readU_34 ?_
        refine va_gets (C := "WaferForge$Sign") (n := "MINUS") (d := "LWaferForge$Sign;") (v := .ref (sg sa 51)) hx hb ((hSW.2.2.2.1.1 51 (by decide)).1) hS hown (hts _ kF_PR_140) (fun _ h9 => h9) d_PR_readU_37 ?_
        refine w_cut (pc2 := 64) (σ := (Nat → Option Nat) × (Nat → Int32) × (Nat → Int32) × (Nat → Int64) × (Nat → Int32) × Int32) (fun u H locs ls => match u with | (j64_pg, j64_pk, j64_pp, j64_pv, j64_pz, j64_h0_stepCount) => (0 ≤ j64_h0_stepCount.toInt ∧ j64_h0_stepCount.toInt ≤ 4100) ∧ (10 * j64_h0_stepCount.toInt ≤ 20 * j7_sc_place.toInt + 10) ∧ (pX (16 * h0_open.toInt - 8) (fun S => if j7_sc_sign = 51 then 1 :: pu j7_wg h0_waitingCount.toInt.toNat (j7_h0_waitingCount.toInt - h0_waitingCount.toInt).toNat S else pu j7_wg h0_waitingCount.toInt.toNat (j7_h0_waitingCount.toInt - h0_waitingCount.toInt).toNat S) (sl gpk gpg gpp gpz gpv h0_stepCount.toInt) (sl j64_pk j64_pg j64_pp j64_pz j64_pv j64_h0_stepCount.toInt) (20 * j7_sc_place.toInt - 20 * sc_place.toInt - pq j7_wg h0_waitingCount.toInt.toNat (j7_h0_waitingCount.toInt - h0_waitingCount.toInt).toNat + if j7_sc_sign = 51 then 10 else 0)) ∧ va_P (dC, dI) cls (wz_125 tr tx tr_length ss css (fun j => (gss j).map (sg sa)) sp csp gsp szs cszs gszs sv csv gsv pk cpk j64_pk pg cpg (fun j => (j64_pg j).map (sg sa)) pp cpp j64_pp pz cpz j64_pz pv cpv j64_pv wg cwg (fun j => (j7_wg j).map (sg sa)) wp cwp j7_wp h0 gl fu pa pf sf pk pg pp pz pv n56 n55 sc j64_h0_stepCount n54 h0_twoSides wg wp j7_h0_waitingCount sc tr (sg sa j7_sc_sign) j7_sc_place j7_sc_size j7_sc_value ss sp szs sv sc_length j7_sc_at) H ∧ va_D A (wz_125 tr tx tr_length ss css (fun j => (gss j).map (sg sa)) sp csp gsp szs cszs gszs sv csv gsv pk cpk j64_pk pg cpg (fun j => (j64_pg j).map (sg sa)) pp cpp j64_pp pz cpz j64_pz pv cpv j64_pv wg cwg (fun j => (j7_wg j).map (sg sa)) wp cwp j7_wp h0 gl fu pa pf sf pk pg pp pz pv n56 n55 sc j64_h0_stepCount n54 h0_twoSides wg wp j7_h0_waitingCount sc tr (sg sa j7_sc_sign) j7_sc_place j7_sc_size j7_sc_value ss sp szs sv sc_length j7_sc_at) ∧ va_S A s.heap H locs ∧ lv_has ls 3 [(0, .ref h0), (1, .int h0_waitingCount), (2, .int j7_l2)]) (fun u => match u with | (j64_pg, j64_pk, j64_pp, j64_pv, j64_pz, j64_h0_stepCount) => []) ?_ (fun jn64 => ?_)
        · intro u H locs ls hI
          obtain ⟨j64_pg, j64_pk, j64_pp, j64_pv, j64_pz, j64_h0_stepCount⟩ := u
          obtain ⟨b_j64_h0_stepCount, y64, hX, hP, hD, hS, hl⟩ := hI
          refine lv_aload_n hx hb d_PR_readU_64 rfl (lv_at hl 0 rfl) ?_
          refine lv_aload_n hx hb d_PR_readU_65 rfl (lv_at hl 0 rfl) ?_
          refine va_get (D := (dC, dI)) (ci := 6) (v := .ref sc) (C := R_PR) (T := F_PR) (N := 19) hx hb hts i_PR hown hK hP 12 rfl rfl 12 (by decide) (hts _ kF_PR_43) (fun _ h9 => h9) rfl d_PR_readU_66 ?_
          refine va_get (D := (dC, dI)) (ci := 8) (v := .ref (sg sa j7_sc_sign)) (C := R_SC) (T := F_SC) (N := 11) hx hb hts i_SC hown hK hP 13 rfl rfl 1 (by decide) (hts _ kF_PR_93) (fun _ h9 => h9) rfl d_PR_readU_69 ?_
          refine lv_aload_n hx hb d_PR_readU_72 rfl (lv_at hl 0 rfl) ?_
          refine va_get (D := (dC, dI)) (ci := 6) (v := .ref sc) (C := R_PR) (T := F_PR) (N := 19) hx hb hts i_PR hown hK hP 12 rfl rfl 12 (by decide) (hts _ kF_PR_43) (fun _ h9 => h9) rfl d_PR_readU_73 ?_
          refine va_get (D := (dC, dI)) (ci := 8) (v := .int j7_sc_place) (C := R_SC) (T := F_SC) (N := 11) hx hb hts i_SC hown hK hP 13 rfl rfl 2 (by decide) (hts _ kF_PR_109) (fun _ h9 => h9) rfl d_PR_readU_76 ?_
          have hPc := hP.sb (wq := (wz_113 h0 gl fu pa pf sf pk pg pp pz pv n56 n55 sc j64_h0_stepCount n54 h0_twoSides wg wp j7_h0_waitingCount wg cwg (fun j => (j7_wg j).map (sg sa)) wp cwp j7_wp)) [12, 10, 11] rfl
          have hDc := hD.sb (wq := (wz_113 h0 gl fu pa pf sf pk pg pp pz pv n56 n55 sc j64_h0_stepCount n54 h0_twoSides wg wp j7_h0_waitingCount wg cwg (fun j => (j7_wg j).map (sg sa)) wp cwp j7_wp)) [12, 10, 11] (by decide) rfl
          have hKc := hK.sb (tyq := [(cwg, .object "WaferForge$Sign"), (cwp, .int)]) [9, 10] rfl
          have hFc := va_free (wc := (wz_113 h0 gl fu pa pf sf pk pg pp pz pv n56 n55 sc j64_h0_stepCount n54 h0_twoSides wg wp j7_h0_waitingCount wg cwg (fun j => (j7_wg j).map (sg sa)) wp cwp j7_wp)) hD hS hA [12, 10, 11] rfl
          refine va_callv (va_runV (As := [.ref (sg sa j7_sc_sign), .int j7_sc_place]) (rest := []) ⟨hx, hb, hml, hown, hts⟩ (c_PR_hold l dC dI H.size sa h0 gl fu pa pf sf pk pg pp pz pv sc wg wp cwg cwp n56 n55 j64_h0_stepCount n54 h0_twoSides j7_h0_waitingCount j7_wg j7_wp (b_j7_h0_waitingCount) j7_sc_sign j7_sc_place (b_j7_sc_sign) (by (try dsimp only) <;> (first | (apply Int.le_antisymm <;> omega) | omega))) (cwV 2 hts (gV kM_PR_257 kV_PR_hold kS_PR_hold kI_PR kC_PR_hold) rfl rfl rfl (by decide +kernel) ⟨(show 0 + 1 ≤ 5 * dep + 19 from by (first | (apply Int.le_antisymm <;> omega) | omega)), (show 8 + (3 + 11) + (0) ≤ 120 * dep + 390 from by (first | (apply Int.le_antisymm <;> omega) | omega))⟩) ⟨fun a U g mk z => by obtain ⟨z0, z1, zP, zK, zD, zS⟩ := z; exact ⟨z0, z1, zP, va_K.moved (u := U) (U := U.calling g mk a) (Vm.Alike.refl U.vm) zK, zD, sw.same (u := U) (U := U.calling g mk a) rfl zS⟩, va_recv hKc hPc (ci := 6) (q0 := 0) rfl rfl, fun U hU hW => ⟨rfl, by rw [hU], va_P.he hU.symm hPc, va_K.moved hW.alike hKc, hDc.weaken (fun _ _ _ _ => trivial), hSW.call hS hFc hW hU⟩⟩ rfl rfl hl.1 rfl (lv_room (Nat.le_of_ble_eq_true rfl)) d_PR_readU_79 ⟨(Nat.zero_le _), (Nat.zero_le _)⟩) hS (fun q _ h => hFc q h) hFc (fun u t H1 locs ht hvm hw hB hz1 hk1 hS => ?_)
          obtain ⟨n58, n59, n60⟩ := u
          try dsimp only at hw
          obtain ⟨bn60, xr57⟩ := hw
          try clear hw
          obtain ⟨hP1, hK1, hD1⟩ := hB
          replace hP1 := va_P.he ht hP1
          obtain ⟨hP, hD⟩ := va_join (wr := [(tr, .inr (1, [.ref tx, .int tr_length])), (ss, .inl (css, 2001, .inr (.inr (.inr (.inr (fun j => (gss j).map (sg sa))))))), (sp, .inl (csp, 2001, .inl gsp)), (szs, .inl (cszs, 2001, .inl gszs)), (sv, .inl (csv, 2001, .inr (.inl gsv))), (pk, .inl (cpk, 4100, .inl j64_pk)), (pg, .inl (cpg, 4100, .inr (.inr (.inr (.inr (fun j => (j64_pg j).map (sg sa))))))), (pp, .inl (cpp, 4100, .inl j64_pp)), (pz, .inl (cpz, 4100, .inl j64_pz)), (pv, .inl (cpv, 4100, .inr (.inl j64_pv))), (sc, .inr (8, [.ref tr, .ref (sg sa j7_sc_sign), .int j7_sc_place, .int j7_sc_size, .long j7_sc_value, .ref ss, .ref sp, .ref szs, .ref sv, .int sc_length, .int j7_sc_at]))]) (w1 := (wz_113 h0 gl fu pa pf sf pk pg pp pz pv n56 n55 sc j64_h0_stepCount n54 h0_twoSides wg wp n60 wg cwg (fun j => (n58 j).map (sg sa)) wp cwp n59)) hP hD [12, 10, 11] [0, 1, 2, 3, 4, 5, 6, 7, 8, 9, 13] rfl rfl (by decide) (by decide) hk1 hFc hP1 hD1
          clear hPc hDc hKc hFc hz1 hk1 hP1 hK1 hD1
          rename Heap => H
          have hP : va_P (dC, dI) cls [(tr, .inr (1, [.ref tx, .int tr_length])), (ss, .inl (css, 2001, .inr (.inr (.inr (.inr (fun j => (gss j).map (sg sa))))))), (sp, .inl (csp, 2001, .inl gsp)), (szs, .inl (cszs, 2001, .inl gszs)), (sv, .inl (csv, 2001, .inr (.inl gsv))), (pk, .inl (cpk, 4100, .inl j64_pk)), (pg, .inl (cpg, 4100, .inr (.inr (.inr (.inr (fun j => (j64_pg j).map (sg sa))))))), (pp, .inl (cpp, 4100, .inl j64_pp)), (pz, .inl (cpz, 4100, .inl j64_pz)), (pv, .inl (cpv, 4100, .inr (.inl j64_pv))), (sc, .inr (8, [.ref tr, .ref (sg sa j7_sc_sign), .int j7_sc_place, .int j7_sc_size, .long j7_sc_value, .ref ss, .ref sp, .ref szs, .ref sv, .int sc_length, .int j7_sc_at])), (h0, .inr (6, [.ref gl, .ref fu, .ref pa, .ref pf, .ref sf, .ref pk, .ref pg, .ref pp, .ref pz, .ref pv, .int n56, .int n55, .ref sc, .int j64_h0_stepCount, .int n54, .int h0_twoSides, .ref wg, .ref wp, .int n60])), (wg, .inl (cwg, 360, .inr (.inr (.inr (.inr (fun j => (n58 j).map (sg sa))))))), (wp, .inl (cwp, 360, .inl n59))] H := hP
          have hD : va_D A [(tr, .inr (1, [.ref tx, .int tr_length])), (ss, .inl (css, 2001, .inr (.inr (.inr (.inr (fun j => (gss j).map (sg sa))))))), (sp, .inl (csp, 2001, .inl gsp)), (szs, .inl (cszs, 2001, .inl gszs)), (sv, .inl (csv, 2001, .inr (.inl gsv))), (pk, .inl (cpk, 4100, .inl j64_pk)), (pg, .inl (cpg, 4100, .inr (.inr (.inr (.inr (fun j => (j64_pg j).map (sg sa))))))), (pp, .inl (cpp, 4100, .inl j64_pp)), (pz, .inl (cpz, 4100, .inl j64_pz)), (pv, .inl (cpv, 4100, .inr (.inl j64_pv))), (sc, .inr (8, [.ref tr, .ref (sg sa j7_sc_sign), .int j7_sc_place, .int j7_sc_size, .long j7_sc_value, .ref ss, .ref sp, .ref szs, .ref sv, .int sc_length, .int j7_sc_at])), (h0, .inr (6, [.ref gl, .ref fu, .ref pa, .ref pf, .ref sf, .ref pk, .ref pg, .ref pp, .ref pz, .ref pv, .int n56, .int n55, .ref sc, .int j64_h0_stepCount, .int n54, .int h0_twoSides, .ref wg, .ref wp, .int n60])), (wg, .inl (cwg, 360, .inr (.inr (.inr (.inr (fun j => (n58 j).map (sg sa))))))), (wp, .inl (cwp, 360, .inl n59))] := hD
          refine lv_aload_n hx hb d_PR_readU_82 rfl (lv_at hl 0 rfl) ?_
          refine va_get (D := (dC, dI)) (ci := 6) (v := .ref sc) (C := R_PR) (T := F_PR) (N := 19) hx hb hts i_PR hown hK hP 11 rfl rfl 12 (by decide) (hts _ kF_PR_43) (fun _ h9 => h9) rfl d_PR_readU_83 ?_
          have hPc := hP.sb (wq := (wz_107 sc tr (sg sa j7_sc_sign) j7_sc_place j7_sc_size j7_sc_value ss sp szs sv sc_length j7_sc_at tr tx tr_length ss css (fun j => (gss j).map (sg sa)) sp csp gsp szs cszs gszs sv csv gsv)) [10, 0, 1, 2, 3, 4] rfl
          have hDc := hD.sb (wq := (wz_107 sc tr (sg sa j7_sc_sign) j7_sc_place j7_sc_size j7_sc_value ss sp szs sv sc_length j7_sc_at tr tx tr_length ss css (fun j => (gss j).map (sg sa)) sp csp gsp szs cszs gszs sv csv gsv)) [10, 0, 1, 2, 3, 4] (by decide) rfl
          have hKc := hK.sb (tyq := [(css, .object "WaferForge$Sign"), (csp, .int), (cszs, .int), (csv, .long)]) [0, 1, 2, 3] rfl
          have hFc := va_free (wc := (wz_107 sc tr (sg sa j7_sc_sign) j7_sc_place j7_sc_size j7_sc_value ss sp szs sv sc_length j7_sc_at tr tx tr_length ss css (fun j => (gss j).map (sg sa)) sp csp gsp szs cszs gszs sv csv gsv)) hD hS hA [10, 0, 1, 2, 3, 4] rfl
          refine va_callv (va_runV (As := []) (rest := []) ⟨hx, hb, hml, hown, hts⟩ (c_SC_next l dC dI H.size sa sc tr ss sp szs sv tx css csp cszs csv j7_sc_sign j7_sc_place j7_sc_size j7_sc_value sc_length j7_sc_at tr_length gss gsp gszs gsv (b_j7_sc_sign) (b_j7_sc_place) (b_j7_sc_size) (b_sc_length) (b_j7_sc_at) (b_tr_length) (hsk.1.2.1)) (cwV 0 hts (gV kM_PR_114 kV_SC_next kS_SC_next kI_SC kC_SC_next) rfl rfl rfl (by decide +kernel) ⟨(show 0 + 1 ≤ 5 * dep + 19 from by (first | (apply Int.le_antisymm <;> omega) | omega)), (show 8 + (1 + 11) + (0) ≤ 120 * dep + 390 from by (first | (apply Int.le_antisymm <;> omega) | omega))⟩) ⟨fun a U g mk z => by obtain ⟨z0, z1, zP, zK, zD, zS⟩ := z; exact ⟨z0, z1, zP, va_K.moved (u := U) (U := U.calling g mk a) (Vm.Alike.refl U.vm) zK, zD, sw.same (u := U) (U := U.calling g mk a) rfl zS⟩, va_recv hKc hPc (ci := 8) (q0 := 0) rfl rfl, fun U hU hW => ⟨rfl, by rw [hU], va_P.he hU.symm hPc, va_K.moved hW.alike hKc, hDc.weaken (fun _ _ _ _ => trivial), hSW.call hS hFc hW hU⟩⟩ rfl rfl hl.1 rfl (lv_room (Nat.le_of_ble_eq_true rfl)) d_PR_readU_86 ⟨(Nat.zero_le _), (Nat.zero_le _)⟩) hS (fun q _ h => hFc q h) hFc (fun u t H1 locs ht hvm hw hB hz1 hk1 hS => ?_)
          obtain ⟨n62, n63, n64, n65, n66⟩ := u
          try dsimp only at hw
          obtain ⟨bn62, bn63, bn64, bn65, xr61⟩ := hw
          try clear hw
          have or61 := hsk
          have zr61 := sk_next hsk xr61.1 xr61.2
          have hsk := zr61.1
          have mr61 := zr61.2.1
          have fr61 := zr61.2.2.1
          clear xr61 zr61
          have m86 := (fr61 (by (first | (apply Int.le_antisymm <;> omega) | omega)) (by (first | (apply Int.le_antisymm <;> omega) | omega))).2
          have z86 := sk_pos or61 (by (first | (apply Int.le_antisymm <;> omega) | omega)) (by (first | (apply Int.le_antisymm <;> omega) | omega))
          have dr61 := sk_is hsk
          obtain ⟨hP1, hK1, hD1⟩ := hB
          replace hP1 := va_P.he ht hP1
          obtain ⟨hP, hD⟩ := va_join (wr := [(pk, .inl (cpk, 4100, .inl j64_pk)), (pg, .inl (cpg, 4100, .inr (.inr (.inr (.inr (fun j => (j64_pg j).map (sg sa))))))), (pp, .inl (cpp, 4100, .inl j64_pp)), (pz, .inl (cpz, 4100, .inl j64_pz)), (pv, .inl (cpv, 4100, .inr (.inl j64_pv))), (h0, .inr (6, [.ref gl, .ref fu, .ref pa, .ref pf, .ref sf, .ref pk, .ref pg, .ref pp, .ref pz, .ref pv, .int n56, .int n55, .ref sc, .int j64_h0_stepCount, .int n54, .int h0_twoSides, .ref wg, .ref wp, .int n60])), (wg, .inl (cwg, 360, .inr (.inr (.inr (.inr (fun j => (n58 j).map (sg sa))))))), (wp, .inl (cwp, 360, .inl n59))]) (w1 := (wz_107 sc tr (sg sa n64) n63 n65 n66 ss sp szs sv sc_length n62 tr tx tr_length ss css (fun j => (gss j).map (sg sa)) sp csp gsp szs cszs gszs sv csv gsv)) hP hD [10, 0, 1, 2, 3, 4] [5, 6, 7, 8, 9, 11, 12, 13] rfl rfl (by decide) (by decide) hk1 hFc hP1 hD1
          clear hPc hDc hKc hFc hz1 hk1 hP1 hK1 hD1
          rename Heap => H
          have hP : va_P (dC, dI) cls (wz_134 pk cpk j64_pk pg cpg (fun j => (j64_pg j).map (sg sa)) pp cpp j64_pp pz cpz j64_pz pv cpv j64_pv h0 gl fu pa pf sf pk pg pp pz pv n56 n55 sc j64_h0_stepCount n54 h0_twoSides wg wp n60 wg cwg (fun j => (n58 j).map (sg sa)) wp cwp n59 sc tr (sg sa n64) n63 n65 n66 ss sp szs sv sc_length n62 tr tx tr_length ss css (fun j => (gss j).map (sg sa)) sp csp gsp szs cszs gszs sv csv gsv) H := hP
          have hD : va_D A (wz_134 pk cpk j64_pk pg cpg (fun j => (j64_pg j).map (sg sa)) pp cpp j64_pp pz cpz j64_pz pv cpv j64_pv h0 gl fu pa pf sf pk pg pp pz pv n56 n55 sc j64_h0_stepCount n54 h0_twoSides wg wp n60 wg cwg (fun j => (n58 j).map (sg sa)) wp cwp n59 sc tr (sg sa n64) n63 n65 n66 ss sp szs sv sc_length n62 tr tx tr_length ss css (fun j => (gss j).map (sg sa)) sp csp gsp szs cszs gszs sv csv gsv) := hD
          obtain ⟨x67, ex67⟩ : ∃ z : Int32, z = j7_l2 + 1 := ⟨_, rfl⟩
          have tx67 : x67.toInt = j7_l2.toInt + 1 := by have z := i32_add ex67 (by (first | (apply Int.le_antisymm <;> omega) | omega)) (by (first | (apply Int.le_antisymm <;> omega) | omega)); first | exact z | (first | (apply Int.le_antisymm <;> omega) | omega)
          refine lv_iinc (v := x67) (lv' := [(2, .int x67), (0, .ref h0), (1, .int h0_waitingCount)]) hx hb d_PR_readU_89 hl (k := 2) rfl (by rw [ex67]; rfl) (by decide) rfl (fun ls hl => ?_)
          refine lv_goto (tgt := 7) hx hb d_PR_readU_92 (by decide) ?_
          exact ih7 (x67, j64_pg, j64_pk, j64_pp, j64_pv, j64_pz, n58, n59, n54, n55, n56, j64_h0_stepCount, n60, n62, n63, n64, n65, n66) _ _ _ (by show (41 - x67.toInt).toNat < N7; (first | (apply Int.le_antisymm <;> omega) | omega)) ⟨bn54, b_j64_h0_stepCount, bn60, bn62, bn63, bn64, bn65, hsk, by (try dsimp only) <;> (first | (apply Int.le_antisymm <;> omega) | omega), by (try dsimp only) <;> (first | (apply Int.le_antisymm <;> omega) | omega), pX_hold hX xr57.2.1 (by (first | (apply Int.le_antisymm <;> omega) | omega)) (by (first | (apply Int.le_antisymm <;> omega) | omega)) (by (try dsimp only) <;> (first | (apply Int.le_antisymm <;> omega) | omega)), ps_up xr57.2.1 (by (first | (apply Int.le_antisymm <;> omega) | omega)) (by (first | (apply Int.le_antisymm <;> omega) | omega)) kk hps, wk_tr hwk (wk_up xr57.2.1 (by (first | (apply Int.le_antisymm <;> omega) | omega)) (by (first | (apply Int.le_antisymm <;> omega) | omega))) (Int.le_refl _), hP.sub [5, 8, 9, 10, 11, 12, 13, 0, 1, 2, 3, 4, 6, 7] rfl, hD.sub [5, 8, 9, 10, 11, 12, 13, 0, 1, 2, 3, 4, 6, 7] (by decide) rfl, hS, lv_sub hl [1, 2, 0] rfl⟩
        · skip
          refine lv_acmp_ne (rx := some (sg sa j7_sc_sign)) (ry := some (sg sa 51)) (tgt := 64) hx hb d_PR_readU_40 (by decide) (fun c40 => ?_) (fun c40 => ?_)
          · have q40 : j7_sc_sign ≠ 51 := fun z => c40 (by rw [z])
            exact jn64 (j7_pg, j7_pk, j7_pp, j7_pv, j7_pz, j7_h0_stepCount) _ _ _ ⟨b_j7_h0_stepCount, by (try dsimp only) <;> (first | (apply Int.le_antisymm <;> omega) | omega), pX_mono (pX_eq hX (fun S => by rw [if_neg q40])) (Int.le_refl _) (by rw [if_neg q40]; (try dsimp only) <;> (first | (apply Int.le_antisymm <;> omega) | omega)), hP, hD, hS, lv_sub hl [0, 1, 2] rfl⟩
          · have q40 : j7_sc_sign = 51 := hSW.2.2.2.1.2 j7_sc_sign 51 b_j7_sc_sign (by decide : 51 < 55) (Option.some.inj c40)
            refine lv_aload_n hx hb d_PR_readU_43 rfl (lv_at hl 0 rfl) ?_
            refine lv_iconst (v := 4) hx hb d_PR_readU_44 (by decide) ?_
            refine lv_aload_n hx hb d_PR_readU_45 rfl (lv_at hl 0 rfl) ?_
            refine va_get (D := (dC, dI)) (ci := 6) (v := .ref sc) (C := R_PR) (T := F_PR) (N := 19) hx hb hts i_PR hown hK hP 12 rfl rfl 12 (by decide) (hts _ kF_PR_43) (fun _ h9 => h9) rfl d_PR_readU_46 ?_
            refine va_get (D := (dC, dI)) (ci := 8) (v := .ref (sg sa j7_sc_sign)) (C := R_SC) (T := F_SC) (N := 11) hx hb hts i_SC hown hK hP 13 rfl rfl 1 (by decide) (hts _ kF_PR_93) (fun _ h9 => h9) rfl d_PR_readU_49 ?_
            refine lv_aload_n hx hb d_PR_readU_52 rfl (lv_at hl 0 rfl) ?_
            refine va_get (D := (dC, dI)) (ci := 6) (v := .ref sc) (C := R_PR) (T := F_PR) (N := 19) hx hb hts i_PR hown hK hP 12 rfl rfl 12 (by decide) (hts _ kF_PR_43) (fun _ h9 => h9) rfl d_PR_readU_53 ?_
            refine va_get (D := (dC, dI)) (ci := 8) (v := .int j7_sc_place) (C := R_SC) (T := F_SC) (N := 11) hx hb hts i_SC hown hK hP 13 rfl rfl 2 (by decide) (hts _ kF_PR_109) (fun _ h9 => h9) rfl d_PR_readU_56 ?_
            refine lv_iconst (v := 0) hx hb d_PR_readU_59 (by decide) ?_
            refine lv_lconst (v := 0) hx hb d_PR_readU_60 (by decide) ?_
            have kl0 : (0 : Int64).toInt = 0 := by decide
            have hPc := hP.sb (wq := (wz_114 h0 gl fu pa pf sf pk pg pp pz pv n56 n55 sc j7_h0_stepCount n54 h0_twoSides wg wp j7_h0_waitingCount pk cpk j7_pk pg cpg (fun j => (j7_pg j).map (sg sa)) pp cpp j7_pp pz cpz j7_pz pv cpv j7_pv)) [12, 5, 6, 7, 8, 9] rfl
            have hDc := hD.sb (wq := (wz_114 h0 gl fu pa pf sf pk pg pp pz pv n56 n55 sc j7_h0_stepCount n54 h0_twoSides wg wp j7_h0_waitingCount pk cpk j7_pk pg cpg (fun j => (j7_pg j).map (sg sa)) pp cpp j7_pp pz cpz j7_pz pv cpv j7_pv)) [12, 5, 6, 7, 8, 9] (by decide) rfl
            have hKc := hK.sb (tyq := [(cpk, .int), (cpg, .object "WaferForge$Sign"), (cpp, .int), (cpz, .int), (cpv, .long)]) [4, 5, 6, 7, 8] rfl
            have hFc := va_free (wc := (wz_114 h0 gl fu pa pf sf pk pg pp pz pv n56 n55 sc j7_h0_stepCount n54 h0_twoSides wg wp j7_h0_waitingCount pk cpk j7_pk pg cpg (fun j => (j7_pg j).map (sg sa)) pp cpp j7_pp pz cpz j7_pz pv cpv j7_pv)) hD hS hA [12, 5, 6, 7, 8, 9] rfl
            refine va_callv (va_runV (As := [.int 4, .ref (sg sa j7_sc_sign), .int j7_sc_place, .int 0, .long 0]) (rest := []) ⟨hx, hb, hml, hown, hts⟩ (c_PR_add l dC dI H.size sa h0 gl fu pa pf sf pk pg pp pz pv sc wg wp cpk cpg cpp cpz cpv n56 n55 j7_h0_stepCount n54 h0_twoSides j7_h0_waitingCount j7_pk j7_pg j7_pp j7_pz j7_pv (b_j7_h0_stepCount) 4 j7_sc_sign j7_sc_place 0 0 (b_j7_sc_sign) (by (try dsimp only) <;> (first | (apply Int.le_antisymm <;> omega) | omega))) (cwV 5 hts (gV kM_PR_187 kV_PR_add kS_PR_add kI_PR kC_PR_add) rfl rfl rfl (by decide +kernel) ⟨(show 0 + 1 ≤ 5 * dep + 19 from by (first | (apply Int.le_antisymm <;> omega) | omega)), (show 8 + (7 + 11) + (0) ≤ 120 * dep + 390 from by (first | (apply Int.le_antisymm <;> omega) | omega))⟩) ⟨fun a U g mk z => by obtain ⟨z0, z1, zP, zK, zD, zS⟩ := z; exact ⟨z0, z1, zP, va_K.moved (u := U) (U := U.calling g mk a) (Vm.Alike.refl U.vm) zK, zD, sw.same (u := U) (U := U.calling g mk a) rfl zS⟩, va_recv hKc hPc (ci := 6) (q0 := 0) rfl rfl, fun U hU hW => ⟨rfl, by rw [hU], va_P.he hU.symm hPc, va_K.moved hW.alike hKc, hDc.weaken (fun _ _ _ _ => trivial), hSW.call hS hFc hW hU⟩⟩ rfl rfl hl.1 rfl (lv_room (Nat.le_of_ble_eq_true rfl)) d_PR_readU_61 ⟨(Nat.zero_le _), (Nat.zero_le _)⟩) hS (fun q _ h => hFc q h) hFc (fun u t H1 locs ht hvm hw hB hz1 hk1 hS => ?_)
            obtain ⟨n69, n70, n71, n72, n73, n74⟩ := u
            try dsimp only at hw
            obtain ⟨bn74, xr68⟩ := hw
            try clear hw
            have sr68 := xr68.1
            have Lr68 := xr68.2
            clear xr68
            obtain ⟨hP1, hK1, hD1⟩ := hB
            replace hP1 := va_P.he ht hP1
            obtain ⟨hP, hD⟩ := va_join (wr := [(tr, .inr (1, [.ref tx, .int tr_length])), (ss, .inl (css, 2001, .inr (.inr (.inr (.inr (fun j => (gss j).map (sg sa))))))), (sp, .inl (csp, 2001, .inl gsp)), (szs, .inl (cszs, 2001, .inl gszs)), (sv, .inl (csv, 2001, .inr (.inl gsv))), (wg, .inl (cwg, 360, .inr (.inr (.inr (.inr (fun j => (j7_wg j).map (sg sa))))))), (wp, .inl (cwp, 360, .inl j7_wp)), (sc, .inr (8, [.ref tr, .ref (sg sa j7_sc_sign), .int j7_sc_place, .int j7_sc_size, .long j7_sc_value, .ref ss, .ref sp, .ref szs, .ref sv, .int sc_length, .int j7_sc_at]))]) (w1 := (wz_114 h0 gl fu pa pf sf pk pg pp pz pv n56 n55 sc n74 n54 h0_twoSides wg wp j7_h0_waitingCount pk cpk n70 pg cpg (fun j => (n69 j).map (sg sa)) pp cpp n71 pz cpz n73 pv cpv n72)) hP hD [12, 5, 6, 7, 8, 9] [0, 1, 2, 3, 4, 10, 11, 13] rfl rfl (by decide) (by decide) hk1 hFc hP1 hD1
            clear hPc hDc hKc hFc hz1 hk1 hP1 hK1 hD1
            rename Heap => H
            have hP : va_P (dC, dI) cls (wz_135 tr tx tr_length ss css (fun j => (gss j).map (sg sa)) sp csp gsp szs cszs gszs sv csv gsv wg cwg (fun j => (j7_wg j).map (sg sa)) wp cwp j7_wp sc tr (sg sa j7_sc_sign) j7_sc_place j7_sc_size j7_sc_value ss sp szs sv sc_length j7_sc_at h0 gl fu pa pf sf pk pg pp pz pv n56 n55 sc n74 n54 h0_twoSides wg wp j7_h0_waitingCount pk cpk n70 pg cpg (fun j => (n69 j).map (sg sa)) pp cpp n71 pz cpz n73 pv cpv n72) H := hP
            have hD : va_D A (wz_135 tr tx tr_length ss css (fun j => (gss j).map (sg sa)) sp csp gsp szs cszs gszs sv csv gsv wg cwg (fun j => (j7_wg j).map (sg sa)) wp cwp j7_wp sc tr (sg sa j7_sc_sign) j7_sc_place j7_sc_size j7_sc_value ss sp szs sv sc_length j7_sc_at h0 gl fu pa pf sf pk pg pp pz pv n56 n55 sc n74 n54 h0_twoSides wg wp j7_h0_waitingCount pk cpk n70 pg cpg (fun j => (n69 j).map (sg sa)) pp cpp n71 pz cpz n73 pv cpv n72) := hD
            exact jn64 (n69, n70, n71, n72, n73, n74) _ _ _ ⟨bn74, by (try dsimp only) <;> (first | (apply Int.le_antisymm <;> omega) | omega), pX_mono (pX_eq (pX_step hX Lr68 (g := fun S => 1 :: pu j7_wg h0_waitingCount.toInt.toNat (j7_h0_waitingCount.toInt - h0_waitingCount.toInt).toNat S) (c := 10) (fun S q => ⟨sS_4 ⟨rfl, rfl⟩, lm_c (pu_ls q (Int.le_refl _)) (by (first | (apply Int.le_antisymm <;> omega) | omega))⟩) (by (first | (apply Int.le_antisymm <;> omega) | omega))) (fun S => by rw [if_pos q40])) (Int.le_refl _) (by rw [if_pos q40]; (try dsimp only) <;> (first | (apply Int.le_antisymm <;> omega) | omega)), hP.sub [0, 1, 2, 3, 4, 9, 10, 11, 12, 13, 5, 6, 8, 7] rfl, hD.sub [0, 1, 2, 3, 4, 9, 10, 11, 12, 13, 5, 6, 8, 7] (by decide) rfl, hS, lv_sub hl [0, 1, 2] rfl⟩
end q_48
section q_49
/-! Program: signs of two sides -/
def lvl (k : Nat) : Int := (sg_level.getD k 0).toInt
theorem sg_lv : ∀ k, k < 55 → (0 < lvl k → 36 ≤ k) ∧ lvl k ≤ 7 ∧ (36 ≤ k → 1 ≤ lvl k) := by decide
def itm (k : Nat) : Nat := if k = 36 then 2 else if k = 37 then 3 else 0
def hcost (k : Nat) : Int := if k = 36 then 25 else if k = 37 then 10 else 0
def wcost (k : Nat) : Int := if k = 36 then 24 else if k = 37 then 40 else 10
def pw (g : Nat → Option Nat) (f : Nat) : Nat → List Nat → List Nat
  | 0, S => S
  | i + 1, S => itm ((g (f + i)).getD 0) :: pw g f i S
def pvc (g : Nat → Option Nat) (f : Nat) : Nat → Int
  | 0 => 0
  | i + 1 => pvc g f i + wcost ((g (f + i)).getD 0)
def py (g : Nat → Option Nat) (f i : Nat) : Prop := ∀ j, j < i → ∃ k, g (f + j) = some k ∧ 36 ≤ k ∧ k < 55 ∧ (j : Int) + 1 ≤ lvl k
theorem wcost_b (k : Nat) : 10 ≤ wcost k ∧ wcost k ≤ 40 := by
  unfold wcost
  split
  · (first | (apply Int.le_antisymm <;> omega) | omega)
  · split <;> (first | (apply Int.le_antisymm <;> omega) | omega)
theorem pw_0 {g : Nat → Option Nat} {f i : Nat} {S : List Nat} (h : i = 0) : pw g f i S = S := by subst h; rfl
theorem pvc_0 {g : Nat → Option Nat} {f i : Nat} (h : i = 0) : pvc g f i = 0 := by subst h; rfl
theorem pvc_pos {g : Nat → Option Nat} {f : Nat} : ∀ i, 0 ≤ pvc g f i := by
  intro i
  induction i with
  | zero => exact Int.le_refl _
  | succ i ih =>
    have : pvc g f (i + 1) = pvc g f i + wcost ((g (f + i)).getD 0) := rfl
    have := wcost_b ((g (f + i)).getD 0)
    (first | (apply Int.le_antisymm <;> omega) | omega)
theorem pw_len {g : Nat → Option Nat} {f : Nat} {S : List Nat} : ∀ i, (pw g f i S).length = S.length + i := by
  intro i
  induction i with
  | zero => rfl
  | succ i ih =>
    have : pw g f (i + 1) S = itm ((g (f + i)).getD 0) :: pw g f i S := rfl
    rw [this, List.length_cons]; (first | (apply Int.le_antisymm <;> omega) | omega)
theorem pw_wk {a b : Nat → Option Nat} {f : Nat} {S : List Nat} {n : Int} (h : wk n a b) : ∀ i, ((f + i : Nat) : Int) ≤ n → pw b f i S = pw a f i S := by
  intro i
  induction i with
  | zero => intro _; rfl
  | succ i ih =>
    intro q
    have e1 : pw a f (i + 1) S = itm ((a (f + i)).getD 0) :: pw a f i S := rfl
    have e2 : pw b f (i + 1) S = itm ((b (f + i)).getD 0) :: pw b f i S := rfl
    rw [e1, e2, h (f + i) (by (first | (apply Int.le_antisymm <;> omega) | omega)), ih (by (first | (apply Int.le_antisymm <;> omega) | omega))]
theorem pvc_wk {a b : Nat → Option Nat} {f : Nat} {n : Int} (h : wk n a b) : ∀ i, ((f + i : Nat) : Int) ≤ n → pvc b f i = pvc a f i := by
  intro i
  induction i with
  | zero => intro _; rfl
  | succ i ih =>
    intro q
    have e1 : pvc a f (i + 1) = pvc a f i + wcost ((a (f + i)).getD 0) := rfl
    have e2 : pvc b f (i + 1) = pvc b f i + wcost ((b (f + i)).getD 0) := rfl
    rw [e1, e2, h (f + i) (by (first | (apply Int.le_antisymm <;> omega) | omega)), ih (by (first | (apply Int.le_antisymm <;> omega) | omega))]
theorem py_wk {a b : Nat → Option Nat} {f i : Nat} {n : Int} (h : wk n a b) (q : ((f + i : Nat) : Int) ≤ n) (hs : py a f i) : py b f i := fun j h1 => by rw [h (f + j) (by (first | (apply Int.le_antisymm <;> omega) | omega))]; exact hs j h1
theorem py_le {a : Nat → Option Nat} {f i i2 : Nat} (hs : py a f i) (h : i2 ≤ i) : py a f i2 := fun j h1 => hs j (by (first | (apply Int.le_antisymm <;> omega) | omega))
theorem py_up {a b : Nat → Option Nat} {f i i2 k : Nat} {w : Int32} (e : b = va_up a w.toNatClampNeg (some k)) (hw : w.toInt = (f + i : Nat)) (h2 : i2 = i + 1) (hk : 36 ≤ k ∧ k < 55) (hl : (i : Int) + 1 ≤ lvl k) (hs : py a f i) : py b f i2 := by
  subst e; subst h2
  have c := i32_clamp (x := w) (by (first | (apply Int.le_antisymm <;> omega) | omega))
  intro j h1
  by_cases q : f + j = w.toNatClampNeg
  · exact ⟨k, by rw [q]; exact va_us, hk.1, hk.2, by (first | (apply Int.le_antisymm <;> omega) | omega)⟩
  · rw [va_un q]
    exact hs j (by (first | (apply Int.le_antisymm <;> omega) | omega))
theorem pw_fr {g : Nat → Option Nat} {f : Nat} {S : List Nat} : ∀ i, py g f i → fr (pw g f i S) ≤ fr S + 2 ∧ (i ≤ 1 → fr (pw g f i S) ≤ fr S + 1) ∧ (i ≤ 0 → fr (pw g f i S) ≤ fr S) := by
  intro i
  induction i with
  | zero => exact fun _ => ⟨by show fr S ≤ _; (first | (apply Int.le_antisymm <;> omega) | omega), fun _ => by show fr S ≤ _; (first | (apply Int.le_antisymm <;> omega) | omega), fun _ => Int.le_refl _⟩
  | succ i ih =>
    intro h
    obtain ⟨k, a1, a2, a3, a4⟩ := h i (by (first | (apply Int.le_antisymm <;> omega) | omega))
    have w := ih (fun j q => h j (by (first | (apply Int.le_antisymm <;> omega) | omega)))
    have e : fr (pw g f (i + 1) S) = fr (pw g f i S) + fw (itm ((g (f + i)).getD 0)) := rfl
    rw [a1, show (some k).getD 0 = k from rfl] at e
    by_cases q : k = 36 ∨ k = 37
    · have l1 : lvl 36 = 1 := by decide
      have l2 : lvl 37 = 2 := by decide
      have f2 : fw (itm k) = 1 := by rcases q with rfl | rfl <;> rfl
      have hi : i ≤ 1 := by rcases q with rfl | rfl <;> (first | (apply Int.le_antisymm <;> omega) | omega)
      have w1 := w.2.1 hi
      refine ⟨by (first | (apply Int.le_antisymm <;> omega) | omega), fun z => ?_, fun z => absurd z (by (first | (apply Int.le_antisymm <;> omega) | omega))⟩
      have := w.2.2 (by (first | (apply Int.le_antisymm <;> omega) | omega))
      (first | (apply Int.le_antisymm <;> omega) | omega)
    · have f2 : fw (itm k) = 0 := by
        rw [show itm k = 0 from by unfold itm; rw [if_neg (fun z => q (Or.inl z)), if_neg (fun z => q (Or.inr z))]]
        rfl
      refine ⟨by (first | (apply Int.le_antisymm <;> omega) | omega), fun z => ?_, fun z => absurd z (by (first | (apply Int.le_antisymm <;> omega) | omega))⟩
      have := w.2.2 (by (first | (apply Int.le_antisymm <;> omega) | omega))
      (first | (apply Int.le_antisymm <;> omega) | omega)
theorem ls_pw {B B2 : Int} {g : Nat → Option Nat} {f i : Nat} {S : List Nat} (q : ls B S) (hs : py g f i) (h : B + i ≤ B2) (hf : ph B + 2 ≤ ph B2) : ls B2 (pw g f i S) := ⟨by have := q.1; rw [pw_len]; (first | (apply Int.le_antisymm <;> omega) | omega), by have := q.2; have := (pw_fr (S := S) i hs).1; (first | (apply Int.le_antisymm <;> omega) | omega)⟩
theorem lm_pw {B : Int} {g : Nat → Option Nat} {f i x : Nat} {S : List Nat} (q : ls B S) (hs : py g f i) (h : B + i ≤ 679) : lm (x :: pw g f i S) := ⟨by have := q.1; rw [List.length_cons, pw_len]; (first | (apply Int.le_antisymm <;> omega) | omega), by have := q.2; have := (pw_fr (S := S) i hs).1; have := fw_b x; show fr _ + fw x ≤ _; unfold ph at *; (first | (apply Int.le_antisymm <;> omega) | omega)⟩
theorem pX_two {B D : Int} {l l1 l2 : List pS} {g : Nat → Option Nat} {f i i2 k : Nat} {p z : Int32} {v : Int64} (h : pX B (fun S => 0 :: pw g f i S) l l1 (D - pvc g f i)) (e : l2 = l1 ++ [(3, some k, p, z, v)]) (hi : i = i2 + 1) (hk : g (f + i2) = some k) (hs : py g f i) (hB : B + i2 ≤ 679) : pX B (fun S => 0 :: pw g f i2 S) l l2 (D - pvc g f i2) := by
  subst hi
  obtain ⟨k2, q1, q2, q3, -⟩ := hs i2 (by (first | (apply Int.le_antisymm <;> omega) | omega))
  rw [hk] at q1
  obtain rfl := Option.some.inj q1
  have hl : ∀ S : List Nat, ls B S → lm (0 :: pw g f i2 S) := fun S q => lm_pw q (py_le hs (by (first | (apply Int.le_antisymm <;> omega) | omega))) (by (first | (apply Int.le_antisymm <;> omega) | omega))
  have e1 : pvc g f (i2 + 1) = pvc g f i2 + wcost ((g (f + i2)).getD 0) := rfl
  have e2 : ∀ S, pw g f (i2 + 1) S = itm ((g (f + i2)).getD 0) :: pw g f i2 S := fun _ => rfl
  rw [hk] at e1 e2
  have e3 : (some k).getD 0 = k := rfl
  rw [e3] at e1 e2
  refine pX_mono (pX_step (c := wcost k) h e (fun S hS => ⟨sS_3 ⟨pw g f i2 S, rfl, ?_⟩, hl S hS⟩) (wcost_b k).1) (Int.le_refl _) (by (first | (apply Int.le_antisymm <;> omega) | omega))
  rw [e2 S]
  unfold wcost itm
  by_cases q : k = 36
  · rw [if_pos q, if_pos q]
    exact Or.inl ⟨q, rfl, rfl⟩
  · rw [if_neg q, if_neg q]
    by_cases q' : k = 37
    · rw [if_pos q', if_pos q']
      exact Or.inr (Or.inl ⟨q', rfl, rfl⟩)
    · rw [if_neg q', if_neg q']
      exact Or.inr (Or.inr ⟨⟨by (first | (apply Int.le_antisymm <;> omega) | omega), q3⟩, rfl, rfl⟩)
theorem pX_push {B d d2 : Int} {l l1 : List pS} {a b : Nat → Option Nat} {f i i2 k : Nat} {w : Int32} (h : pX B (fun S => itm k :: pw a f i S) l l1 (d - pvc a f i + hcost k)) (e : b = va_up a w.toNatClampNeg (some k)) (hw : w.toInt = (f + i : Nat)) (h2 : i2 = i + 1) (hd : d + hcost k + wcost k ≤ d2) : pX B (fun S => pw b f i2 S) l l1 (d2 - pvc b f i2) := by
  subst h2
  have hk : wk (f + i : Nat) a b := wk_up e (by (first | (apply Int.le_antisymm <;> omega) | omega)) (by (first | (apply Int.le_antisymm <;> omega) | omega))
  have hb : b (f + i) = some k := by
    have c := i32_clamp (x := w) (by (first | (apply Int.le_antisymm <;> omega) | omega))
    rw [e, show f + i = w.toNatClampNeg from by (first | (apply Int.le_antisymm <;> omega) | omega)]
    exact va_us
  have e1 : pvc b f (i + 1) = pvc a f i + wcost k := by
    have : pvc b f (i + 1) = pvc b f i + wcost ((b (f + i)).getD 0) := rfl
    rw [this, pvc_wk hk i (Int.le_refl _), hb]
    rfl
  refine pX_mono (pX_eq h (fun S => ?_)) (Int.le_refl _) (by (first | (apply Int.le_antisymm <;> omega) | omega))
  have : pw b f (i + 1) S = itm ((b (f + i)).getD 0) :: pw b f i S := rfl
  rw [this, pw_wk hk i (Int.le_refl _), hb]
  rfl
theorem d_PR_settle_0 : decode b_PR_settle 0 = .ok (.aload_n 0, 1) := bz_c42 (by decide +kernel)
theorem d_PR_settle_1 : decode b_PR_settle 1 = .ok (.getfield 87, 3) := bz_c180 (by decide +kernel)
theorem d_PR_settle_4 : decode b_PR_settle 4 = .ok (.iload_n 1, 1) := bz_c27 (by decide +kernel)
theorem d_PR_settle_5 : decode b_PR_settle 5 = .ok (.if_icmp .le 59, 3) := bz_c164 (by decide +kernel)
theorem d_PR_settle_8 : decode b_PR_settle 8 = .ok (.aload_n 0, 1) := bz_c42 (by decide +kernel)
theorem d_PR_settle_9 : decode b_PR_settle 9 = .ok (.getfield 37, 3) := bz_c180 (by decide +kernel)
theorem d_PR_settle_12 : decode b_PR_settle 12 = .ok (.aload_n 0, 1) := bz_c42 (by decide +kernel)
theorem d_PR_settle_13 : decode b_PR_settle 13 = .ok (.getfield 87, 3) := bz_c180 (by decide +kernel)
theorem d_PR_settle_16 : decode b_PR_settle 16 = .ok (.iconst 1, 1) := bz_c4 (by decide +kernel)
theorem d_PR_settle_17 : decode b_PR_settle 17 = .ok (.isub, 1) := bz_c100 (by decide +kernel)
theorem d_PR_settle_18 : decode b_PR_settle 18 = .ok (.aaload, 1) := bz_c50 (by decide +kernel)
theorem d_PR_settle_19 : decode b_PR_settle 19 = .ok (.getfield 241, 3) := bz_c180 (by decide +kernel)
theorem d_PR_settle_22 : decode b_PR_settle 22 = .ok (.iload_n 2, 1) := bz_c28 (by decide +kernel)
theorem d_PR_settle_23 : decode b_PR_settle 23 = .ok (.if_icmp .lt 41, 3) := bz_c161 (by decide +kernel)
theorem d_PR_settle_26 : decode b_PR_settle 26 = .ok (.aload_n 0, 1) := bz_c42 (by decide +kernel)
theorem d_PR_settle_27 : decode b_PR_settle 27 = .ok (.dup, 1) := bz_c89 (by decide +kernel)
theorem d_PR_settle_28 : decode b_PR_settle 28 = .ok (.getfield 87, 3) := bz_c180 (by decide +kernel)
theorem d_PR_settle_31 : decode b_PR_settle 31 = .ok (.iconst 1, 1) := bz_c4 (by decide +kernel)
theorem d_PR_settle_32 : decode b_PR_settle 32 = .ok (.isub, 1) := bz_c100 (by decide +kernel)
theorem d_PR_settle_33 : decode b_PR_settle 33 = .ok (.putfield 87, 3) := bz_c181 (by decide +kernel)
theorem d_PR_settle_36 : decode b_PR_settle 36 = .ok (.aload_n 0, 1) := bz_c42 (by decide +kernel)
theorem d_PR_settle_37 : decode b_PR_settle 37 = .ok (.iconst 3, 1) := bz_c6 (by decide +kernel)
theorem d_PR_settle_38 : decode b_PR_settle 38 = .ok (.aload_n 0, 1) := bz_c42 (by decide +kernel)
theorem d_PR_settle_39 : decode b_PR_settle 39 = .ok (.getfield 37, 3) := bz_c180 (by decide +kernel)
theorem d_PR_settle_42 : decode b_PR_settle 42 = .ok (.aload_n 0, 1) := bz_c42 (by decide +kernel)
theorem d_PR_settle_43 : decode b_PR_settle 43 = .ok (.getfield 87, 3) := bz_c180 (by decide +kernel)
theorem d_PR_settle_46 : decode b_PR_settle 46 = .ok (.aaload, 1) := bz_c50 (by decide +kernel)
theorem d_PR_settle_47 : decode b_PR_settle 47 = .ok (.aload_n 0, 1) := bz_c42 (by decide +kernel)
theorem d_PR_settle_48 : decode b_PR_settle 48 = .ok (.getfield 40, 3) := bz_c180 (by decide +kernel)
theorem d_PR_settle_51 : decode b_PR_settle 51 = .ok (.aload_n 0, 1) := bz_c42 (by decide +kernel)
theorem d_PR_settle_52 : decode b_PR_settle 52 = .ok (.getfield 87, 3) := bz_c180 (by decide +kernel)
theorem d_PR_settle_55 : decode b_PR_settle 55 = .ok (.iaload, 1) := bz_c46 (by decide +kernel)
theorem d_PR_settle_56 : decode b_PR_settle 56 = .ok (.iconst 0, 1) := bz_c3 (by decide +kernel)
theorem d_PR_settle_57 : decode b_PR_settle 57 = .ok (.lconst 0, 1) := bz_c9 (by decide +kernel)
theorem d_PR_settle_58 : decode b_PR_settle 58 = .ok (.invokevirtual 187, 3) := bz_c182 (by decide +kernel)
theorem d_PR_settle_61 : decode b_PR_settle 61 = .ok (.goto (-61), 3) := bz_c167 (by decide +kernel)
theorem d_PR_settle_64 : decode b_PR_settle 64 = .ok (.return_, 1) := bz_c177 (by decide +kernel)
theorem kF_PR_241 : Cond.fieldLink R_PR 241 "WaferForge$Sign" "level" "I" ∈ lw_g := in_c13 234 rfl rfl
abbrev at_PR_settle (dC : Nat → ClassId) (dI : Nat → Nat → Nat) (sa : Nat → Nat) (h0 gl fu pa pf sf pk pg pp pz pv sc wg wp : Nat) (cpk cpg cpp cpz cpv cwg cwp : ClassId) (h0_reason : Int32) (h0_place : Int32) (h0_open : Int32) (h0_twoSides : Int32) (gwg : Nat → Option Nat) (gwp : Nat → Int32) (A : Nat → Prop) (u : (Nat → Option Nat) × (Nat → Int32) × (Nat → Int32) × (Nat → Int64) × (Nat → Int32) × Int32 × Int32) (t : State) : Prop := match u with | (gpg, gpk, gpp, gpv, gpz, h0_stepCount, h0_waitingCount) => va_P (dC, dI) cls (wz_122 h0 gl fu pa pf sf pk pg pp pz pv h0_reason h0_place sc h0_stepCount h0_open h0_twoSides wg wp h0_waitingCount pk cpk gpk pg cpg (fun j => (gpg j).map (sg sa)) pp cpp gpp pz cpz gpz pv cpv gpv wg cwg (fun j => (gwg j).map (sg sa)) wp cwp gwp) t.heap ∧ va_K (dC, dI) cls [(cpk, .int), (cpg, .object "WaferForge$Sign"), (cpp, .int), (cpz, .int), (cpv, .long), (cwg, .object "WaferForge$Sign"), (cwp, .int)] t ∧ va_D A (wz_122 h0 gl fu pa pf sf pk pg pp pz pv h0_reason h0_place sc h0_stepCount h0_open h0_twoSides wg wp h0_waitingCount pk cpk gpk pg cpg (fun j => (gpg j).map (sg sa)) pp cpp gpp pz cpz gpz pv cpv gpv wg cwg (fun j => (gwg j).map (sg sa)) wp cwp gwp)
set_option maxHeartbeats 4000000 in
set_option maxRecDepth 100000 in
theorem c_PR_settle (l : Launch) (dC : Nat → ClassId) (dI : Nat → Nat → Nat) (sz : Nat) (sa : Nat → Nat) (h0 gl fu pa pf sf pk pg pp pz pv sc wg wp : Nat) (cpk cpg cpp cpz cpv cwg cwp : ClassId) (h0_reason : Int32) (h0_place : Int32) (h0_stepCount : Int32) (h0_open : Int32) (h0_twoSides : Int32) (h0_waitingCount : Int32) (gpk : Nat → Int32) (gpg : Nat → Option Nat) (gpp : Nat → Int32) (gpz : Nat → Int32) (gpv : Nat → Int64) (gwg : Nat → Option Nat) (gwp : Nat → Int32) (gB : Int) (gD : Int) (gl0 : List pS)  (b_h0_stepCount : 0 ≤ h0_stepCount.toInt ∧ h0_stepCount.toInt ≤ 4100) (b_h0_waitingCount : 0 ≤ h0_waitingCount.toInt ∧ h0_waitingCount.toInt ≤ 360) (p0 : Int32) (p1 : Int32)  (hX : pX gB (fun S => 0 :: pw gwg p0.toInt.toNat (h0_waitingCount.toInt - p0.toInt).toNat S) gl0 (sl gpk gpg gpp gpz gpv h0_stepCount.toInt) (gD - pvc gwg p0.toInt.toNat (h0_waitingCount.toInt - p0.toInt).toNat)) (hpy : py gwg p0.toInt.toNat (h0_waitingCount.toInt - p0.toInt).toNat) (hfl : 0 ≤ p0.toInt ∧ p0.toInt ≤ h0_waitingCount.toInt ∧ h0_waitingCount.toInt ≤ p0.toInt + 7) (hgb : gB ≤ 670) (hgd : 10 * (gl0.length : Int) + gD ≤ 40900) : Met l y_PR_settle w_PR_settle ({ frames := 1, cells := 0, slots := 0, locals := 26 }) (va_Pc [.ref h0, .int p0, .int p1] (fun U => U.heap.size = sz ∧ va_P (dC, dI) cls (wz_122 h0 gl fu pa pf sf pk pg pp pz pv h0_reason h0_place sc h0_stepCount h0_open h0_twoSides wg wp h0_waitingCount pk cpk gpk pg cpg (fun j => (gpg j).map (sg sa)) pp cpp gpp pz cpz gpz pv cpv gpv wg cwg (fun j => (gwg j).map (sg sa)) wp cwp gwp) U.heap ∧ va_K (dC, dI) cls [(cpk, .int), (cpg, .object "WaferForge$Sign"), (cpp, .int), (cpz, .int), (cpv, .long), (cwg, .object "WaferForge$Sign"), (cwp, .int)] U ∧ va_D (fun _ => True) (wz_122 h0 gl fu pa pf sf pk pg pp pz pv h0_reason h0_place sc h0_stepCount h0_open h0_twoSides wg wp h0_waitingCount pk cpk gpk pg cpg (fun j => (gpg j).map (sg sa)) pp cpp gpp pz cpz gpz pv cpv gpv wg cwg (fun j => (gwg j).map (sg sa)) wp cwp gwp) ∧ sw sa (va_A (wz_122 h0 gl fu pa pf sf pk pg pp pz pv h0_reason h0_place sc h0_stepCount h0_open h0_twoSides wg wp h0_waitingCount pk cpk gpk pg cpg (fun j => (gpg j).map (sg sa)) pp cpp gpp pz cpz gpz pv cpv gpv wg cwg (fun j => (gwg j).map (sg sa)) wp cwp gwp) sz) U U.heap)) (va_Qv (fun (u : (Nat → Option Nat) × (Nat → Int32) × (Nat → Int32) × (Nat → Int64) × (Nat → Int32) × Int32 × Int32) => match u with | (gpg2, gpk2, gpp2, gpv2, gpz2, h0_stepCount2, h0_waitingCount2) => (0 ≤ h0_stepCount2.toInt ∧ h0_stepCount2.toInt ≤ 4100) ∧ (0 ≤ h0_waitingCount2.toInt ∧ h0_waitingCount2.toInt ≤ 360) ∧ ((p0.toInt ≤ h0_waitingCount2.toInt ∧ h0_waitingCount2.toInt ≤ h0_waitingCount.toInt) ∧ (p0.toInt < h0_waitingCount2.toInt → ∃ k, gwg (h0_waitingCount2.toInt - 1).toNat = some k ∧ lvl k < p1.toInt) ∧ pX gB (fun S => 0 :: pw gwg p0.toInt.toNat (h0_waitingCount2.toInt - p0.toInt).toNat S) gl0 (sl gpk2 gpg2 gpp2 gpz2 gpv2 h0_stepCount2.toInt) (gD - pvc gwg p0.toInt.toNat (h0_waitingCount2.toInt - p0.toInt).toNat))) (at_PR_settle dC dI sa h0 gl fu pa pf sf pk pg pp pz pv sc wg wp cpk cpg cpp cpz cpv cwg cwp h0_reason h0_place h0_open h0_twoSides gwg gwp (va_A (wz_122 h0 gl fu pa pf sf pk pg pp pz pv h0_reason h0_place sc h0_stepCount h0_open h0_twoSides wg wp h0_waitingCount pk cpk gpk pg cpg (fun j => (gpg j).map (sg sa)) pp cpp gpp pz cpz gpz pv cpv gpv wg cwg (fun j => (gwg j).map (sg sa)) wp cwp gwp) sz)) (va_A (wz_122 h0 gl fu pa pf sf pk pg pp pz pv h0_reason h0_place sc h0_stepCount h0_open h0_twoSides wg wp h0_waitingCount pk cpk gpk pg cpg (fun j => (gpg j).map (sg sa)) pp cpp gpp pz cpz gpz pv cpv gpv wg cwg (fun j => (gwg j).map (sg sa)) wp cwp gwp) sz)) 0 0 (va_A (wz_122 h0 gl fu pa pf sf pk pg pp pz pv h0_reason h0_place sc h0_stepCount h0_open h0_twoSides wg wp h0_waitingCount pk cpk gpk pg cpg (fun j => (gpg j).map (sg sa)) pp cpp gpp pz cpz gpz pv cpv gpv wg cwg (fun j => (gwg j).map (sg sa)) wp cwp gwp) sz) := by
  refine Met.ofW (cc := b_PR_settle) (maxL := 3) (ret := none) (by decide) rfl ?_
  intro p e s m args below meth c s₁ B hml hv
  obtain ⟨rfl, hsz, hP, hK, hD0, hSW⟩ := hv
  have hx := B.exec
  have hb := B.bytes
  have hr := B.returns
  have hts0 := atoms_spec (ws := w_PR_settle) B.pre
  have hts : ∀ w ∈ lw_g, w.before _ s = true := fun w h => hts0 w (List.mem_cons_of_mem _ h)
  have hown : s.vm.findClass R_PR = some m.cls := findClass_of_methodNamed B.named
  have hlocks := B.notSynchronized
  clear hts0
  subst hsz
  have hD := hD0.self (sz := s.heap.size)
  generalize hAe : va_A (wz_122 h0 gl fu pa pf sf pk pg pp pz pv h0_reason h0_place sc h0_stepCount h0_open h0_twoSides wg wp h0_waitingCount pk cpk gpk pg cpg (fun j => (gpg j).map (sg sa)) pp cpp gpp pz cpz gpz pv cpv gpv wg cwg (fun j => (gwg j).map (sg sa)) wp cwp gwp) s.heap.size = A at hD hSW ⊢
  have hA : ∀ q : Nat, s.heap.size ≤ q → A q := fun q h => by rw [← hAe]; exact Or.inr h
  clear hAe
  have hP : va_P (dC, dI) cls (wz_122 h0 gl fu pa pf sf pk pg pp pz pv h0_reason h0_place sc h0_stepCount h0_open h0_twoSides wg wp h0_waitingCount pk cpk gpk pg cpg (fun j => (gpg j).map (sg sa)) pp cpp gpp pz cpz gpz pv cpv gpv wg cwg (fun j => (gwg j).map (sg sa)) wp cwp gwp) s.heap := hP
  have hl := lv_entry ([.ref h0, .int p0, .int p1]) (n := 3) (Nat.le_of_ble_eq_true rfl)
  rw [lg_entry_eq]
  generalize (lg_sl ([.ref h0, .int p0, .int p1]) ++ List.replicate (3 - (lg_sl ([.ref h0, .int p0, .int p1])).length) Slot.unset).toArray = ls at hl ⊢
  have hl : lv_has ls 3 [(0, .ref h0), (1, .int p0), (2, .int p1)] := hl
  have k0 : (0 : Int32).toInt = 0 := by decide
  refine w_gen (A := A) hP (fun H locs hP hS => ?_)
  have k1 : (1 : Int32).toInt = 1 := by decide
  have k3 : (3 : Int32).toInt = 3 := by decide
  have lo_p0 := i32_lo p0
  have hi_p0 := i32_hi p0
  have lo_p1 := i32_lo p1
  have hi_p1 := i32_hi p1
  refine w_loop (σ := (Nat → Option Nat) × (Nat → Int32) × (Nat → Int32) × (Nat → Int64) × (Nat → Int32) × Int32 × Int32) (fun u H locs ls => match u with | (j0_pg, j0_pk, j0_pp, j0_pv, j0_pz, j0_h0_stepCount, j0_h0_waitingCount) => (0 ≤ j0_h0_stepCount.toInt ∧ j0_h0_stepCount.toInt ≤ 4100) ∧ (0 ≤ j0_h0_waitingCount.toInt ∧ j0_h0_waitingCount.toInt ≤ 360) ∧ (p0.toInt ≤ j0_h0_waitingCount.toInt ∧ j0_h0_waitingCount.toInt ≤ h0_waitingCount.toInt) ∧ (pX gB (fun S => 0 :: pw gwg p0.toInt.toNat (j0_h0_waitingCount.toInt - p0.toInt).toNat S) gl0 (sl j0_pk j0_pg j0_pp j0_pz j0_pv j0_h0_stepCount.toInt) (gD - pvc gwg p0.toInt.toNat (j0_h0_waitingCount.toInt - p0.toInt).toNat)) ∧ va_P (dC, dI) cls (wz_122 h0 gl fu pa pf sf pk pg pp pz pv h0_reason h0_place sc j0_h0_stepCount h0_open h0_twoSides wg wp j0_h0_waitingCount pk cpk j0_pk pg cpg (fun j => (j0_pg j).map (sg sa)) pp cpp j0_pp pz cpz j0_pz pv cpv j0_pv wg cwg (fun j => (gwg j).map (sg sa)) wp cwp gwp) H ∧ va_D A (wz_122 h0 gl fu pa pf sf pk pg pp pz pv h0_reason h0_place sc j0_h0_stepCount h0_open h0_twoSides wg wp j0_h0_waitingCount pk cpk j0_pk pg cpg (fun j => (j0_pg j).map (sg sa)) pp cpp j0_pp pz cpz j0_pz pv cpv j0_pv wg cwg (fun j => (gwg j).map (sg sa)) wp cwp gwp) ∧ va_S A s.heap H locs ∧ lv_has ls 3 [(0, .ref h0), (1, .int p0), (2, .int p1)]) (fun u => match u with | (j0_pg, j0_pk, j0_pp, j0_pv, j0_pz, j0_h0_stepCount, j0_h0_waitingCount) => (j0_h0_waitingCount.toInt - p0.toInt).toNat) ?_ (gpg, gpk, gpp, gpv, gpz, h0_stepCount, h0_waitingCount) ⟨b_h0_stepCount, b_h0_waitingCount, by (try dsimp only) <;> (first | (apply Int.le_antisymm <;> omega) | omega), hX, hP, hD, hS, lv_sub hl [0, 1, 2] rfl⟩
  intro N0 ih0 u H locs ls hN0 hI
  obtain ⟨j0_pg, j0_pk, j0_pp, j0_pv, j0_pz, j0_h0_stepCount, j0_h0_waitingCount⟩ := u
  obtain ⟨b_j0_h0_stepCount, b_j0_h0_waitingCount, v1, hX, hP, hD, hS, hl⟩ := hI
  have hN0 : (j0_h0_waitingCount.toInt - p0.toInt).toNat < N0 + 1 := hN0
  refine lv_aload_n hx hb d_PR_settle_0 rfl (lv_at hl 0 rfl) ?_
  refine va_get (D := (dC, dI)) (ci := 6) (v := .int j0_h0_waitingCount) (C := R_PR) (T := F_PR) (N := 19) hx hb hts i_PR hown hK hP 0 rfl rfl 18 (by decide) (hts _ kF_PR_87) (fun _ h9 => h9) rfl d_PR_settle_1 ?_
  refine lv_iload_n hx hb d_PR_settle_4 rfl (lv_at hl 1 rfl) ?_
  refine lv_icmp_le (tgt := 64) hx hb d_PR_settle_5 (by decide) (fun c5 => ?_) (fun c5 => ?_)
  · have q5 := leI c5
    have hP9 := hP.sb (wq := (wz_122 h0 gl fu pa pf sf pk pg pp pz pv h0_reason h0_place sc j0_h0_stepCount h0_open h0_twoSides wg wp j0_h0_waitingCount pk cpk j0_pk pg cpg (fun j => (j0_pg j).map (sg sa)) pp cpp j0_pp pz cpz j0_pz pv cpv j0_pv wg cwg (fun j => (gwg j).map (sg sa)) wp cwp gwp)) [0, 1, 2, 3, 4, 5, 6, 7] rfl
    have hD9 := hD.sb (wq := (wz_122 h0 gl fu pa pf sf pk pg pp pz pv h0_reason h0_place sc j0_h0_stepCount h0_open h0_twoSides wg wp j0_h0_waitingCount pk cpk j0_pk pg cpg (fun j => (j0_pg j).map (sg sa)) pp cpp j0_pp pz cpz j0_pz pv cpv j0_pv wg cwg (fun j => (gwg j).map (sg sa)) wp cwp gwp)) [0, 1, 2, 3, 4, 5, 6, 7] (by decide) rfl
    exact W.vret hx hb hr (fun t ht hW => ⟨⟨(j0_pg, j0_pk, j0_pp, j0_pv, j0_pz, j0_h0_stepCount, j0_h0_waitingCount), rfl, ⟨b_j0_h0_stepCount, b_j0_h0_waitingCount, ⟨by (try dsimp only) <;> (first | (apply Int.le_antisymm <;> omega) | omega), fun z => absurd z (by (try dsimp only) <;> (first | (apply Int.le_antisymm <;> omega) | omega)), hX⟩⟩, va_P.he ht.symm hP9, va_K.moved hW.alike hK, hD9⟩, hS.F ht⟩) hS.2.2 d_PR_settle_64
  · have q5 := nleI c5
    refine lv_aload_n hx hb d_PR_settle_8 rfl (lv_at hl 0 rfl) ?_
    refine va_get (D := (dC, dI)) (ci := 6) (v := .ref wg) (C := R_PR) (T := F_PR) (N := 19) hx hb hts i_PR hown hK hP 0 rfl rfl 16 (by decide) (hts _ kF_PR_37) (fun _ h9 => h9) rfl d_PR_settle_9 ?_
    refine lv_aload_n hx hb d_PR_settle_12 rfl (lv_at hl 0 rfl) ?_
    refine va_get (D := (dC, dI)) (ci := 6) (v := .int j0_h0_waitingCount) (C := R_PR) (T := F_PR) (N := 19) hx hb hts i_PR hown hK hP 0 rfl rfl 18 (by decide) (hts _ kF_PR_87) (fun _ h9 => h9) rfl d_PR_settle_13 ?_
    refine lv_iconst (v := 1) hx hb d_PR_settle_16 (by decide) ?_
    refine lv_isub hx hb d_PR_settle_17 ?_
    refine lv_topi (fun x1 ex1 => ?_)
    have tx1 : x1.toInt = j0_h0_waitingCount.toInt - 1 := by have z := i32_sub ex1 (by (first | (apply Int.le_antisymm <;> omega) | omega)) (by (first | (apply Int.le_antisymm <;> omega) | omega)); first | exact z | (first | (apply Int.le_antisymm <;> omega) | omega)
    have g18 : vp_in x1 360 := vp_in_iff.mpr ⟨by (first | (apply Int.le_antisymm <;> omega) | omega), by (first | (apply Int.le_antisymm <;> omega) | omega)⟩
    obtain ⟨k2, hk2, ek2⟩ : ∃ z : Nat, z < 55 ∧ gwg x1.toNatClampNeg = some z := by obtain ⟨k9, h9, h8, h7, -⟩ := hpy (x1.toInt - p0.toInt).toNat (by (first | (apply Int.le_antisymm <;> omega) | omega)); exact ⟨k9, h7, by rw [show x1.toNatClampNeg = p0.toInt.toNat + (x1.toInt - p0.toInt).toNat from by have := i32_clamp (x := x1) (by (first | (apply Int.le_antisymm <;> omega) | omega)); (first | (apply Int.le_antisymm <;> omega) | omega)]; exact h9⟩
    refine va_aldq hx hb hK hP 6 5 rfl rfl g18 d_PR_settle_18 ?_
    refine w_top (v2 := .ref (sg sa k2)) (by show va_rf ((gwg x1.toNatClampNeg).map (sg sa)) = _; rw [ek2]; rfl) ?_
    refine va_getE (i := k2) (q := ("WaferForge$Sign", "level", "I", sg_level)) hx hb hSW.2.2.2.1 hk2 hS hown (List.mem_of_getElem? (i := 1) rfl) (hts _ kF_PR_241) (fun _ h9 => h9) d_PR_settle_19 ?_
    refine lv_topi (fun x3 ex3 => ?_)
    have ex3 : x3 = sg_level.getD k2 0 := ex3
    refine lv_iload_n hx hb d_PR_settle_22 rfl (lv_at hl 2 rfl) ?_
    refine lv_icmp_lt (tgt := 64) hx hb d_PR_settle_23 (by decide) (fun c23 => ?_) (fun c23 => ?_)
    · have q23 := ltI c23
      have hP9 := hP.sb (wq := (wz_122 h0 gl fu pa pf sf pk pg pp pz pv h0_reason h0_place sc j0_h0_stepCount h0_open h0_twoSides wg wp j0_h0_waitingCount pk cpk j0_pk pg cpg (fun j => (j0_pg j).map (sg sa)) pp cpp j0_pp pz cpz j0_pz pv cpv j0_pv wg cwg (fun j => (gwg j).map (sg sa)) wp cwp gwp)) [0, 1, 2, 3, 4, 5, 6, 7] rfl
      have hD9 := hD.sb (wq := (wz_122 h0 gl fu pa pf sf pk pg pp pz pv h0_reason h0_place sc j0_h0_stepCount h0_open h0_twoSides wg wp j0_h0_waitingCount pk cpk j0_pk pg cpg (fun j => (j0_pg j).map (sg sa)) pp cpp j0_pp pz cpz j0_pz pv cpv j0_pv wg cwg (fun j => (gwg j).map (sg sa)) wp cwp gwp)) [0, 1, 2, 3, 4, 5, 6, 7] (by decide) rfl
      exact W.vret hx hb hr (fun t ht hW => ⟨⟨(j0_pg, j0_pk, j0_pp, j0_pv, j0_pz, j0_h0_stepCount, j0_h0_waitingCount), rfl, ⟨b_j0_h0_stepCount, b_j0_h0_waitingCount, ⟨by (try dsimp only) <;> (first | (apply Int.le_antisymm <;> omega) | omega), fun _ => ⟨k2, by rw [show (j0_h0_waitingCount.toInt - 1).toNat = x1.toNatClampNeg from by have := i32_clamp (x := x1) (by (first | (apply Int.le_antisymm <;> omega) | omega)); (first | (apply Int.le_antisymm <;> omega) | omega)]; exact ek2, by rw [show lvl k2 = x3.toInt from by rw [ex3]; rfl]; (first | (apply Int.le_antisymm <;> omega) | omega)⟩, hX⟩⟩, va_P.he ht.symm hP9, va_K.moved hW.alike hK, hD9⟩, hS.F ht⟩) hS.2.2 d_PR_settle_64
    · have q23 := nltI c23
      refine lv_aload_n hx hb d_PR_settle_26 rfl (lv_at hl 0 rfl) ?_
      refine lv_dup hx hb d_PR_settle_27 rfl ?_
      refine va_get (D := (dC, dI)) (ci := 6) (v := .int j0_h0_waitingCount) (C := R_PR) (T := F_PR) (N := 19) hx hb hts i_PR hown hK hP 0 rfl rfl 18 (by decide) (hts _ kF_PR_87) (fun _ h9 => h9) rfl d_PR_settle_28 ?_
      refine lv_iconst (v := 1) hx hb d_PR_settle_31 (by decide) ?_
      refine lv_isub hx hb d_PR_settle_32 ?_
      refine lv_topi (fun x4 ex4 => ?_)
      have tx4 : x4.toInt = j0_h0_waitingCount.toInt - 1 := by have z := i32_sub ex4 (by (first | (apply Int.le_antisymm <;> omega) | omega)) (by (first | (apply Int.le_antisymm <;> omega) | omega)); first | exact z | (first | (apply Int.le_antisymm <;> omega) | omega)
      refine va_put (D := (dC, dI)) (ci := 6) (v := .int x4) (ty := .int) (C := R_PR) (T := F_PR) (N := 19) hx hb hts i_PR t_PR t_PR_ok n_PR hown hK hP hD hS 0 rfl rfl 18 (by decide) (hts _ kF_PR_87) (fun _ h9 => h9) rfl (by decide +kernel) rfl rfl (Nat.le_of_ble_eq_true rfl) d_PR_settle_33 (fun H locs hP hD hS => ?_)
      refine lv_aload_n hx hb d_PR_settle_36 rfl (lv_at hl 0 rfl) ?_
      refine lv_iconst (v := 3) hx hb d_PR_settle_37 (by decide) ?_
      refine lv_aload_n hx hb d_PR_settle_38 rfl (lv_at hl 0 rfl) ?_
      refine va_get (D := (dC, dI)) (ci := 6) (v := .ref wg) (C := R_PR) (T := F_PR) (N := 19) hx hb hts i_PR hown hK hP 0 rfl rfl 16 (by decide) (hts _ kF_PR_37) (fun _ h9 => h9) rfl d_PR_settle_39 ?_
      refine lv_aload_n hx hb d_PR_settle_42 rfl (lv_at hl 0 rfl) ?_
      refine va_get (D := (dC, dI)) (ci := 6) (v := .int x4) (C := R_PR) (T := F_PR) (N := 19) hx hb hts i_PR hown hK hP 0 rfl rfl 18 (by decide) (hts _ kF_PR_87) (fun _ h9 => h9) rfl d_PR_settle_43 ?_
      have g46 : vp_in x4 360 := vp_in_iff.mpr ⟨by (first | (apply Int.le_antisymm <;> omega) | omega), by (first | (apply Int.le_antisymm <;> omega) | omega)⟩
      obtain ⟨k5, hk5, ek5⟩ : ∃ z : Nat, z < 55 ∧ gwg x4.toNatClampNeg = some z := by obtain ⟨k9, h9, h8, h7, -⟩ := hpy (x4.toInt - p0.toInt).toNat (by (first | (apply Int.le_antisymm <;> omega) | omega)); exact ⟨k9, h7, by rw [show x4.toNatClampNeg = p0.toInt.toNat + (x4.toInt - p0.toInt).toNat from by have := i32_clamp (x := x4) (by (first | (apply Int.le_antisymm <;> omega) | omega)); (first | (apply Int.le_antisymm <;> omega) | omega)]; exact h9⟩
      refine va_aldq hx hb hK hP 6 5 rfl rfl g46 d_PR_settle_46 ?_
      refine w_top (v2 := .ref (sg sa k5)) (by show va_rf ((gwg x4.toNatClampNeg).map (sg sa)) = _; rw [ek5]; rfl) ?_
      refine lv_aload_n hx hb d_PR_settle_47 rfl (lv_at hl 0 rfl) ?_
      refine va_get (D := (dC, dI)) (ci := 6) (v := .ref wp) (C := R_PR) (T := F_PR) (N := 19) hx hb hts i_PR hown hK hP 0 rfl rfl 17 (by decide) (hts _ kF_PR_40) (fun _ h9 => h9) rfl d_PR_settle_48 ?_
      refine lv_aload_n hx hb d_PR_settle_51 rfl (lv_at hl 0 rfl) ?_
      refine va_get (D := (dC, dI)) (ci := 6) (v := .int x4) (C := R_PR) (T := F_PR) (N := 19) hx hb hts i_PR hown hK hP 0 rfl rfl 18 (by decide) (hts _ kF_PR_87) (fun _ h9 => h9) rfl d_PR_settle_52 ?_
      have g55 : vp_in x4 360 := vp_in_iff.mpr ⟨by (first | (apply Int.le_antisymm <;> omega) | omega), by (first | (apply Int.le_antisymm <;> omega) | omega)⟩
      refine va_iald hx hb hK hP 7 6 rfl rfl g55 d_PR_settle_55 ?_
      refine lv_topi (fun x6 ex6 => ?_)
      refine lv_iconst (v := 0) hx hb d_PR_settle_56 (by decide) ?_
      refine lv_lconst (v := 0) hx hb d_PR_settle_57 (by decide) ?_
      have kl0 : (0 : Int64).toInt = 0 := by decide
      have y9 := pX_len hX
      rw [sl_len] at y9
      have v9 := pvc_pos (g := gwg) (f := p0.toInt.toNat) (j0_h0_waitingCount.toInt - p0.toInt).toNat
      have hPc := hP.sb (wq := (wz_114 h0 gl fu pa pf sf pk pg pp pz pv h0_reason h0_place sc j0_h0_stepCount h0_open h0_twoSides wg wp x4 pk cpk j0_pk pg cpg (fun j => (j0_pg j).map (sg sa)) pp cpp j0_pp pz cpz j0_pz pv cpv j0_pv)) [0, 1, 2, 3, 4, 5] rfl
      have hDc := hD.sb (wq := (wz_114 h0 gl fu pa pf sf pk pg pp pz pv h0_reason h0_place sc j0_h0_stepCount h0_open h0_twoSides wg wp x4 pk cpk j0_pk pg cpg (fun j => (j0_pg j).map (sg sa)) pp cpp j0_pp pz cpz j0_pz pv cpv j0_pv)) [0, 1, 2, 3, 4, 5] (by decide) rfl
      have hKc := hK.sb (tyq := [(cpk, .int), (cpg, .object "WaferForge$Sign"), (cpp, .int), (cpz, .int), (cpv, .long)]) [0, 1, 2, 3, 4] rfl
      have hFc := va_free (wc := (wz_114 h0 gl fu pa pf sf pk pg pp pz pv h0_reason h0_place sc j0_h0_stepCount h0_open h0_twoSides wg wp x4 pk cpk j0_pk pg cpg (fun j => (j0_pg j).map (sg sa)) pp cpp j0_pp pz cpz j0_pz pv cpv j0_pv)) hD hS hA [0, 1, 2, 3, 4, 5] rfl
      refine va_callv (va_runV (As := [.int 3, .ref (sg sa k5), .int x6, .int 0, .long 0]) (rest := []) ⟨hx, hb, hml, hown, hts⟩ (c_PR_add l dC dI H.size sa h0 gl fu pa pf sf pk pg pp pz pv sc wg wp cpk cpg cpp cpz cpv h0_reason h0_place j0_h0_stepCount h0_open h0_twoSides x4 j0_pk j0_pg j0_pp j0_pz j0_pv (b_j0_h0_stepCount) 3 k5 x6 0 0 (hk5) (by (try dsimp only) <;> (first | (apply Int.le_antisymm <;> omega) | omega))) (cwV 5 hts (gV kM_PR_187 kV_PR_add kS_PR_add kI_PR kC_PR_add) rfl rfl rfl (by decide +kernel) ⟨Nat.le_of_ble_eq_true rfl, Nat.le_of_ble_eq_true rfl⟩) ⟨fun a U g mk z => by obtain ⟨z0, z1, zP, zK, zD, zS⟩ := z; exact ⟨z0, z1, zP, va_K.moved (u := U) (U := U.calling g mk a) (Vm.Alike.refl U.vm) zK, zD, sw.same (u := U) (U := U.calling g mk a) rfl zS⟩, va_recv hKc hPc (ci := 6) (q0 := 0) rfl rfl, fun U hU hW => ⟨rfl, by rw [hU], va_P.he hU.symm hPc, va_K.moved hW.alike hKc, hDc.weaken (fun _ _ _ _ => trivial), hSW.call hS hFc hW hU⟩⟩ rfl rfl hl.1 rfl (lv_room (Nat.le_of_ble_eq_true rfl)) d_PR_settle_58 ⟨(Nat.zero_le _), (Nat.zero_le _)⟩) hS (fun q _ h => hFc q h) hFc (fun u t H1 locs ht hvm hw hB hz1 hk1 hS => ?_)
      obtain ⟨n8, n9, n10, n11, n12, n13⟩ := u
      try dsimp only at hw
      obtain ⟨bn13, xr7⟩ := hw
      try clear hw
      have sr7 := xr7.1
      have Lr7 := xr7.2
      clear xr7
      obtain ⟨hP1, hK1, hD1⟩ := hB
      replace hP1 := va_P.he ht hP1
      obtain ⟨hP, hD⟩ := va_join (wr := [(wg, .inl (cwg, 360, .inr (.inr (.inr (.inr (fun j => (gwg j).map (sg sa))))))), (wp, .inl (cwp, 360, .inl gwp))]) (w1 := (wz_114 h0 gl fu pa pf sf pk pg pp pz pv h0_reason h0_place sc n13 h0_open h0_twoSides wg wp x4 pk cpk n9 pg cpg (fun j => (n8 j).map (sg sa)) pp cpp n10 pz cpz n12 pv cpv n11)) hP hD [0, 1, 2, 3, 4, 5] [6, 7] rfl rfl (by decide) (by decide) hk1 hFc hP1 hD1
      clear hPc hDc hKc hFc hz1 hk1 hP1 hK1 hD1
      rename Heap => H
      have hP : va_P (dC, dI) cls (wz_132 wg cwg (fun j => (gwg j).map (sg sa)) wp cwp gwp h0 gl fu pa pf sf pk pg pp pz pv h0_reason h0_place sc n13 h0_open h0_twoSides wg wp x4 pk cpk n9 pg cpg (fun j => (n8 j).map (sg sa)) pp cpp n10 pz cpz n12 pv cpv n11) H := hP
      have hD : va_D A (wz_132 wg cwg (fun j => (gwg j).map (sg sa)) wp cwp gwp h0 gl fu pa pf sf pk pg pp pz pv h0_reason h0_place sc n13 h0_open h0_twoSides wg wp x4 pk cpk n9 pg cpg (fun j => (n8 j).map (sg sa)) pp cpp n10 pz cpz n12 pv cpv n11) := hD
      refine lv_goto (tgt := 0) hx hb d_PR_settle_61 (by decide) ?_
      have h46 : gwg (p0.toInt.toNat + (x4.toInt - p0.toInt).toNat) = some k5 := by have := i32_clamp (x := x4) (by (first | (apply Int.le_antisymm <;> omega) | omega)); rw [show p0.toInt.toNat + (x4.toInt - p0.toInt).toNat = x4.toNatClampNeg from by (first | (apply Int.le_antisymm <;> omega) | omega)]; exact ek5
      have hX8 := pX_two (i2 := (x4.toInt - p0.toInt).toNat) hX Lr7 (by (first | (apply Int.le_antisymm <;> omega) | omega)) h46 (py_le hpy (by (first | (apply Int.le_antisymm <;> omega) | omega))) (by (first | (apply Int.le_antisymm <;> omega) | omega))
      exact ih0 (n8, n9, n10, n11, n12, n13, x4) _ _ _ (by show (x4.toInt - p0.toInt).toNat < N0; (first | (apply Int.le_antisymm <;> omega) | omega)) ⟨bn13, by (try dsimp only) <;> (first | (apply Int.le_antisymm <;> omega) | omega), by (try dsimp only) <;> (first | (apply Int.le_antisymm <;> omega) | omega), hX8, hP.sub [2, 3, 4, 5, 6, 7, 0, 1] rfl, hD.sub [2, 3, 4, 5, 6, 7, 0, 1] (by decide) rfl, hS, lv_sub hl [0, 1, 2] rfl⟩
end q_49
section q_50
/-! Program: a sign of two sides, an X -/
theorem hw_cost {k : Nat} {z : Int} (h1 : k = 36 → z = 2) (h2 : k = 37 → z = 2) (h3 : 1 ≤ z) : hcost k + wcost k ≤ 20 * z + 10 := by
  unfold hcost wcost
  by_cases q : k = 36
  · rw [if_pos q, if_pos q, h1 q]; decide
  · rw [if_neg q, if_neg q]
    by_cases q' : k = 37
    · rw [if_pos q', if_pos q', h2 q']; decide
    · rw [if_neg q', if_neg q']; (first | (apply Int.le_antisymm <;> omega) | omega)
theorem pX_half {B d : Int} {f : List Nat → List Nat} {l l1 l2 : List pS} {k : Nat} {p z : Int32} {v : Int64} (h : pX B (fun S => 0 :: f S) l l1 d) (e : l2 = l1 ++ [(2, some k, p, z, v)]) (hk : k = 36 ∨ k = 37) (hl : ∀ S : List Nat, ls B S → lm (itm k :: f S)) : pX B (fun S => itm k :: f S) l l2 (d + hcost k) := by
  refine pX_step h e (fun S hS => ⟨sS_2 ⟨f S, rfl, ?_⟩, hl S hS⟩) ?_
  · rcases hk with rfl | rfl
    · exact Or.inl ⟨rfl, rfl, rfl⟩
    · exact Or.inr ⟨rfl, rfl, rfl⟩
  · rcases hk with rfl | rfl <;> decide
theorem itm_0 {k : Nat} (h1 : k ≠ 36) (h2 : k ≠ 37) : itm k = 0 ∧ hcost k = 0 := by
  unfold itm hcost
  rw [if_neg h1, if_neg h2, if_neg h1, if_neg h2]
  exact ⟨rfl, rfl⟩
theorem py_top {g : Nat → Option Nat} {f i i2 k : Nat} {L : Int} (h : py g f i) (hi : i2 ≤ i) (h1 : 0 < i2 → ∃ k, g (f + i2 - 1) = some k ∧ lvl k < L) (h2 : 1 ≤ L) : (i2 : Int) + 1 ≤ L := by
  by_cases q : 0 < i2
  · obtain ⟨k1, a1, a2⟩ := h1 q
    obtain ⟨k2, b1, b2, b3, b4⟩ := h (i2 - 1) (by (first | (apply Int.le_antisymm <;> omega) | omega))
    rw [show f + (i2 - 1) = f + i2 - 1 by (first | (apply Int.le_antisymm <;> omega) | omega), a1] at b1
    obtain rfl := Option.some.inj b1
    (first | (apply Int.le_antisymm <;> omega) | omega)
  · (first | (apply Int.le_antisymm <;> omega) | omega)
theorem d_PR_readTwoSides_0 : decode b_PR_readTwoSides 0 = .ok (.aload_n 0, 1) := bz_c42 (by decide +kernel)
theorem d_PR_readTwoSides_1 : decode b_PR_readTwoSides 1 = .ok (.getfield 43, 3) := bz_c180 (by decide +kernel)
theorem d_PR_readTwoSides_4 : decode b_PR_readTwoSides 4 = .ok (.getfield 93, 3) := bz_c180 (by decide +kernel)
theorem d_PR_readTwoSides_7 : decode b_PR_readTwoSides 7 = .ok (.astore_n 2, 1) := bz_c77 (by decide +kernel)
theorem d_PR_readTwoSides_8 : decode b_PR_readTwoSides 8 = .ok (.aload_n 0, 1) := bz_c42 (by decide +kernel)
theorem d_PR_readTwoSides_9 : decode b_PR_readTwoSides 9 = .ok (.getfield 43, 3) := bz_c180 (by decide +kernel)
theorem d_PR_readTwoSides_12 : decode b_PR_readTwoSides 12 = .ok (.getfield 109, 3) := bz_c180 (by decide +kernel)
theorem d_PR_readTwoSides_15 : decode b_PR_readTwoSides 15 = .ok (.istore_n 3, 1) := bz_c62 (by decide +kernel)
theorem d_PR_readTwoSides_16 : decode b_PR_readTwoSides 16 = .ok (.aload_n 0, 1) := bz_c42 (by decide +kernel)
theorem d_PR_readTwoSides_17 : decode b_PR_readTwoSides 17 = .ok (.iload_n 1, 1) := bz_c27 (by decide +kernel)
theorem d_PR_readTwoSides_18 : decode b_PR_readTwoSides 18 = .ok (.aload_n 2, 1) := bz_c44 (by decide +kernel)
theorem d_PR_readTwoSides_19 : decode b_PR_readTwoSides 19 = .ok (.getfield 241, 3) := bz_c180 (by decide +kernel)
theorem d_PR_readTwoSides_22 : decode b_PR_readTwoSides 22 = .ok (.iconst 1, 1) := bz_c4 (by decide +kernel)
theorem d_PR_readTwoSides_23 : decode b_PR_readTwoSides 23 = .ok (.iadd, 1) := bz_c96 (by decide +kernel)
theorem d_PR_readTwoSides_24 : decode b_PR_readTwoSides 24 = .ok (.invokevirtual 248, 3) := bz_c182 (by decide +kernel)
theorem d_PR_readTwoSides_27 : decode b_PR_readTwoSides 27 = .ok (.aload_n 2, 1) := bz_c44 (by decide +kernel)
theorem d_PR_readTwoSides_28 : decode b_PR_readTwoSides 28 = .ok (.getfield 241, 3) := bz_c180 (by decide +kernel)
theorem d_PR_readTwoSides_31 : decode b_PR_readTwoSides 31 = .ok (.iconst 3, 1) := bz_c6 (by decide +kernel)
theorem d_PR_readTwoSides_32 : decode b_PR_readTwoSides 32 = .ok (.if_icmp .ne 35, 3) := bz_c160 (by decide +kernel)
theorem d_PR_readTwoSides_35 : decode b_PR_readTwoSides 35 = .ok (.aload_n 0, 1) := bz_c42 (by decide +kernel)
theorem d_PR_readTwoSides_36 : decode b_PR_readTwoSides 36 = .ok (.getfield 87, 3) := bz_c180 (by decide +kernel)
theorem d_PR_readTwoSides_39 : decode b_PR_readTwoSides 39 = .ok (.iload_n 1, 1) := bz_c27 (by decide +kernel)
theorem d_PR_readTwoSides_40 : decode b_PR_readTwoSides 40 = .ok (.if_icmp .le 27, 3) := bz_c164 (by decide +kernel)
theorem d_PR_readTwoSides_43 : decode b_PR_readTwoSides 43 = .ok (.aload_n 0, 1) := bz_c42 (by decide +kernel)
theorem d_PR_readTwoSides_44 : decode b_PR_readTwoSides 44 = .ok (.getfield 37, 3) := bz_c180 (by decide +kernel)
theorem d_PR_readTwoSides_47 : decode b_PR_readTwoSides 47 = .ok (.aload_n 0, 1) := bz_c42 (by decide +kernel)
theorem d_PR_readTwoSides_48 : decode b_PR_readTwoSides 48 = .ok (.getfield 87, 3) := bz_c180 (by decide +kernel)
theorem d_PR_readTwoSides_51 : decode b_PR_readTwoSides 51 = .ok (.iconst 1, 1) := bz_c4 (by decide +kernel)
theorem d_PR_readTwoSides_52 : decode b_PR_readTwoSides 52 = .ok (.isub, 1) := bz_c100 (by decide +kernel)
theorem d_PR_readTwoSides_53 : decode b_PR_readTwoSides 53 = .ok (.aaload, 1) := bz_c50 (by decide +kernel)
theorem d_PR_readTwoSides_54 : decode b_PR_readTwoSides 54 = .ok (.getfield 241, 3) := bz_c180 (by decide +kernel)
theorem d_PR_readTwoSides_57 : decode b_PR_readTwoSides 57 = .ok (.iconst 3, 1) := bz_c6 (by decide +kernel)
theorem d_PR_readTwoSides_58 : decode b_PR_readTwoSides 58 = .ok (.if_icmp .ne 9, 3) := bz_c160 (by decide +kernel)
theorem d_PR_readTwoSides_61 : decode b_PR_readTwoSides 61 = .ok (.aload_n 0, 1) := bz_c42 (by decide +kernel)
theorem d_PR_readTwoSides_62 : decode b_PR_readTwoSides 62 = .ok (.iconst 1, 1) := bz_c4 (by decide +kernel)
theorem d_PR_readTwoSides_63 : decode b_PR_readTwoSides 63 = .ok (.iload_n 3, 1) := bz_c29 (by decide +kernel)
theorem d_PR_readTwoSides_64 : decode b_PR_readTwoSides 64 = .ok (.invokevirtual 110, 3) := bz_c182 (by decide +kernel)
theorem d_PR_readTwoSides_67 : decode b_PR_readTwoSides 67 = .ok (.aload_n 0, 1) := bz_c42 (by decide +kernel)
theorem d_PR_readTwoSides_68 : decode b_PR_readTwoSides 68 = .ok (.getfield 172, 3) := bz_c180 (by decide +kernel)
theorem d_PR_readTwoSides_71 : decode b_PR_readTwoSides 71 = .ok (.sipush 200, 3) := bz_c17 (by decide +kernel)
theorem d_PR_readTwoSides_74 : decode b_PR_readTwoSides 74 = .ok (.if_icmp .lt 7, 3) := bz_c161 (by decide +kernel)
theorem d_PR_readTwoSides_77 : decode b_PR_readTwoSides 77 = .ok (.aload_n 0, 1) := bz_c42 (by decide +kernel)
theorem d_PR_readTwoSides_78 : decode b_PR_readTwoSides 78 = .ok (.invokevirtual 117, 3) := bz_c182 (by decide +kernel)
theorem d_PR_readTwoSides_81 : decode b_PR_readTwoSides 81 = .ok (.aload_n 0, 1) := bz_c42 (by decide +kernel)
theorem d_PR_readTwoSides_82 : decode b_PR_readTwoSides 82 = .ok (.dup, 1) := bz_c89 (by decide +kernel)
theorem d_PR_readTwoSides_83 : decode b_PR_readTwoSides 83 = .ok (.getfield 172, 3) := bz_c180 (by decide +kernel)
theorem d_PR_readTwoSides_86 : decode b_PR_readTwoSides 86 = .ok (.iconst 1, 1) := bz_c4 (by decide +kernel)
theorem d_PR_readTwoSides_87 : decode b_PR_readTwoSides 87 = .ok (.iadd, 1) := bz_c96 (by decide +kernel)
theorem d_PR_readTwoSides_88 : decode b_PR_readTwoSides 88 = .ok (.putfield 172, 3) := bz_c181 (by decide +kernel)
theorem d_PR_readTwoSides_91 : decode b_PR_readTwoSides 91 = .ok (.aload_n 0, 1) := bz_c42 (by decide +kernel)
theorem d_PR_readTwoSides_92 : decode b_PR_readTwoSides 92 = .ok (.iload_n 1, 1) := bz_c27 (by decide +kernel)
theorem d_PR_readTwoSides_93 : decode b_PR_readTwoSides 93 = .ok (.aload_n 2, 1) := bz_c44 (by decide +kernel)
theorem d_PR_readTwoSides_94 : decode b_PR_readTwoSides 94 = .ok (.getfield 241, 3) := bz_c180 (by decide +kernel)
theorem d_PR_readTwoSides_97 : decode b_PR_readTwoSides 97 = .ok (.invokevirtual 248, 3) := bz_c182 (by decide +kernel)
theorem d_PR_readTwoSides_100 : decode b_PR_readTwoSides 100 = .ok (.aload_n 2, 1) := bz_c44 (by decide +kernel)
theorem d_PR_readTwoSides_101 : decode b_PR_readTwoSides 101 = .ok (.getstatic 251, 3) := bz_c178 (by decide +kernel)
theorem d_PR_readTwoSides_104 : decode b_PR_readTwoSides 104 = .ok (.if_acmp .eq 10, 3) := bz_c165 (by decide +kernel)
theorem d_PR_readTwoSides_107 : decode b_PR_readTwoSides 107 = .ok (.aload_n 2, 1) := bz_c44 (by decide +kernel)
theorem d_PR_readTwoSides_108 : decode b_PR_readTwoSides 108 = .ok (.getstatic 254, 3) := bz_c178 (by decide +kernel)
theorem d_PR_readTwoSides_111 : decode b_PR_readTwoSides 111 = .ok (.if_acmp .ne 12, 3) := bz_c166 (by decide +kernel)
theorem d_PR_readTwoSides_114 : decode b_PR_readTwoSides 114 = .ok (.aload_n 0, 1) := bz_c42 (by decide +kernel)
theorem d_PR_readTwoSides_115 : decode b_PR_readTwoSides 115 = .ok (.iconst 2, 1) := bz_c5 (by decide +kernel)
theorem d_PR_readTwoSides_116 : decode b_PR_readTwoSides 116 = .ok (.aload_n 2, 1) := bz_c44 (by decide +kernel)
theorem d_PR_readTwoSides_117 : decode b_PR_readTwoSides 117 = .ok (.iload_n 3, 1) := bz_c29 (by decide +kernel)
theorem d_PR_readTwoSides_118 : decode b_PR_readTwoSides 118 = .ok (.iconst 0, 1) := bz_c3 (by decide +kernel)
theorem d_PR_readTwoSides_119 : decode b_PR_readTwoSides 119 = .ok (.lconst 0, 1) := bz_c9 (by decide +kernel)
theorem d_PR_readTwoSides_120 : decode b_PR_readTwoSides 120 = .ok (.invokevirtual 187, 3) := bz_c182 (by decide +kernel)
theorem d_PR_readTwoSides_123 : decode b_PR_readTwoSides 123 = .ok (.aload_n 0, 1) := bz_c42 (by decide +kernel)
theorem d_PR_readTwoSides_124 : decode b_PR_readTwoSides 124 = .ok (.aload_n 2, 1) := bz_c44 (by decide +kernel)
theorem d_PR_readTwoSides_125 : decode b_PR_readTwoSides 125 = .ok (.iload_n 3, 1) := bz_c29 (by decide +kernel)
theorem d_PR_readTwoSides_126 : decode b_PR_readTwoSides 126 = .ok (.invokevirtual 257, 3) := bz_c182 (by decide +kernel)
theorem d_PR_readTwoSides_129 : decode b_PR_readTwoSides 129 = .ok (.aload_n 0, 1) := bz_c42 (by decide +kernel)
theorem d_PR_readTwoSides_130 : decode b_PR_readTwoSides 130 = .ok (.getfield 43, 3) := bz_c180 (by decide +kernel)
theorem d_PR_readTwoSides_133 : decode b_PR_readTwoSides 133 = .ok (.invokevirtual 114, 3) := bz_c182 (by decide +kernel)
theorem d_PR_readTwoSides_136 : decode b_PR_readTwoSides 136 = .ok (.return_, 1) := bz_c177 (by decide +kernel)
theorem kF_PR_172 : Cond.fieldLink R_PR 172 "WaferForge$Program" "twoSides" "I" ∈ lw_g := in_c2 127 rfl rfl
theorem kF_PR_251 : Cond.fieldLink R_PR 251 "WaferForge$Sign" "OR" "LWaferForge$Sign;" ∈ lw_g := in_c5 81 rfl rfl
theorem kF_PR_254 : Cond.fieldLink R_PR 254 "WaferForge$Sign" "AND" "LWaferForge$Sign;" ∈ lw_g := in_c5 83 rfl rfl
abbrev at_PR_readTwoSides (dC : Nat → ClassId) (dI : Nat → Nat → Nat) (sa : Nat → Nat) (h0 gl fu pa pf sf pk pg pp pz pv sc wg wp tr ss sp szs sv tx : Nat) (css csp cszs csv cpk cpg cpp cpz cpv cwg cwp : ClassId) (h0_open : Int32) (sc_length : Int32) (tr_length : Int32) (gss : Nat → Option Nat) (gsp : Nat → Int32) (gszs : Nat → Int32) (gsv : Nat → Int64) (A : Nat → Prop) (u : (Nat → Option Nat) × (Nat → Int32) × (Nat → Int32) × (Nat → Int64) × (Nat → Int32) × (Nat → Option Nat) × (Nat → Int32) × Int32 × Int32 × Int32 × Int32 × Int32 × Int32 × Int32 × Nat × Int32 × Int64) (t : State) : Prop := match u with | (gpg, gpk, gpp, gpv, gpz, gwg, gwp, h0_place, h0_reason, h0_stepCount, h0_twoSides, h0_waitingCount, sc_at, sc_place, sc_sign, sc_size, sc_value) => va_P (dC, dI) cls (wz_121 h0 gl fu pa pf sf pk pg pp pz pv h0_reason h0_place sc h0_stepCount h0_open h0_twoSides wg wp h0_waitingCount sc tr (sg sa sc_sign) sc_place sc_size sc_value ss sp szs sv sc_length sc_at tr tx tr_length ss css (fun j => (gss j).map (sg sa)) sp csp gsp szs cszs gszs sv csv gsv pk cpk gpk pg cpg (fun j => (gpg j).map (sg sa)) pp cpp gpp pz cpz gpz pv cpv gpv wg cwg (fun j => (gwg j).map (sg sa)) wp cwp gwp) t.heap ∧ va_K (dC, dI) cls [(css, .object "WaferForge$Sign"), (csp, .int), (cszs, .int), (csv, .long), (cpk, .int), (cpg, .object "WaferForge$Sign"), (cpp, .int), (cpz, .int), (cpv, .long), (cwg, .object "WaferForge$Sign"), (cwp, .int)] t ∧ va_D A (wz_121 h0 gl fu pa pf sf pk pg pp pz pv h0_reason h0_place sc h0_stepCount h0_open h0_twoSides wg wp h0_waitingCount sc tr (sg sa sc_sign) sc_place sc_size sc_value ss sp szs sv sc_length sc_at tr tx tr_length ss css (fun j => (gss j).map (sg sa)) sp csp gsp szs cszs gszs sv csv gsv pk cpk gpk pg cpg (fun j => (gpg j).map (sg sa)) pp cpp gpp pz cpz gpz pv cpv gpv wg cwg (fun j => (gwg j).map (sg sa)) wp cwp gwp)
set_option maxHeartbeats 4000000 in
set_option maxRecDepth 100000 in
theorem c_PR_readTwoSides (l : Launch) (hlt : l.stackTraces = false) (dC : Nat → ClassId) (dI : Nat → Nat → Nat) (sz : Nat) (sa : Nat → Nat) (h0 gl fu pa pf sf pk pg pp pz pv sc wg wp tr ss sp szs sv tx : Nat) (css csp cszs csv cpk cpg cpp cpz cpv cwg cwp : ClassId) (h0_reason : Int32) (h0_place : Int32) (h0_stepCount : Int32) (h0_open : Int32) (h0_twoSides : Int32) (h0_waitingCount : Int32) (sc_sign : Nat) (sc_place : Int32) (sc_size : Int32) (sc_value : Int64) (sc_length : Int32) (sc_at : Int32) (tr_length : Int32) (gss : Nat → Option Nat) (gsp : Nat → Int32) (gszs : Nat → Int32) (gsv : Nat → Int64) (gpk : Nat → Int32) (gpg : Nat → Option Nat) (gpp : Nat → Int32) (gpz : Nat → Int32) (gpv : Nat → Int64) (gwg : Nat → Option Nat) (gwp : Nat → Int32) (gB : Int) (gD : Int) (gl0 : List pS)  (b_h0_stepCount : 0 ≤ h0_stepCount.toInt ∧ h0_stepCount.toInt ≤ 4100) (b_h0_twoSides : 0 ≤ h0_twoSides.toInt ∧ h0_twoSides.toInt ≤ 400) (b_h0_waitingCount : 0 ≤ h0_waitingCount.toInt ∧ h0_waitingCount.toInt ≤ 360) (b_sc_sign : sc_sign < 55) (b_sc_place : 0 ≤ sc_place.toInt ∧ sc_place.toInt ≤ 2000) (b_sc_size : 0 ≤ sc_size.toInt ∧ sc_size.toInt ≤ 2000) (b_sc_length : 0 ≤ sc_length.toInt ∧ sc_length.toInt ≤ 2001) (b_sc_at : -1 ≤ sc_at.toInt ∧ sc_at.toInt ≤ 2000) (b_tr_length : 0 ≤ tr_length.toInt ∧ tr_length.toInt ≤ 2000) (p0 : Int32)  (hsk : sk tr_length.toInt sc_length.toInt sc_at.toInt sc_sign sc_place sc_size sc_value gss gsp gszs gsv) (hlv : 36 ≤ sc_sign) (hX : pX gB (fun S => 0 :: pw gwg p0.toInt.toNat (h0_waitingCount.toInt - p0.toInt).toNat S) gl0 (sl gpk gpg gpp gpz gpv h0_stepCount.toInt) (gD - pvc gwg p0.toInt.toNat (h0_waitingCount.toInt - p0.toInt).toNat)) (hpy : py gwg p0.toInt.toNat (h0_waitingCount.toInt - p0.toInt).toNat) (hfl : 0 ≤ p0.toInt ∧ p0.toInt ≤ h0_waitingCount.toInt ∧ h0_waitingCount.toInt ≤ p0.toInt + 7) (hgb : gB ≤ 670) (hgd : 10 * (gl0.length : Int) + gD ≤ 40900) (hp0 : p0.toInt ≤ 320) : tz_Met l y_PR_readTwoSides w_PR_readTwoSides ({ frames := 8, cells := 1, slots := 6, locals := 132 }) (va_Pc [.ref h0, .int p0] (fun U => U.heap.size = sz ∧ va_P (dC, dI) cls (wz_121 h0 gl fu pa pf sf pk pg pp pz pv h0_reason h0_place sc h0_stepCount h0_open h0_twoSides wg wp h0_waitingCount sc tr (sg sa sc_sign) sc_place sc_size sc_value ss sp szs sv sc_length sc_at tr tx tr_length ss css (fun j => (gss j).map (sg sa)) sp csp gsp szs cszs gszs sv csv gsv pk cpk gpk pg cpg (fun j => (gpg j).map (sg sa)) pp cpp gpp pz cpz gpz pv cpv gpv wg cwg (fun j => (gwg j).map (sg sa)) wp cwp gwp) U.heap ∧ va_K (dC, dI) cls [(css, .object "WaferForge$Sign"), (csp, .int), (cszs, .int), (csv, .long), (cpk, .int), (cpg, .object "WaferForge$Sign"), (cpp, .int), (cpz, .int), (cpv, .long), (cwg, .object "WaferForge$Sign"), (cwp, .int)] U ∧ va_D (fun _ => True) (wz_121 h0 gl fu pa pf sf pk pg pp pz pv h0_reason h0_place sc h0_stepCount h0_open h0_twoSides wg wp h0_waitingCount sc tr (sg sa sc_sign) sc_place sc_size sc_value ss sp szs sv sc_length sc_at tr tx tr_length ss css (fun j => (gss j).map (sg sa)) sp csp gsp szs cszs gszs sv csv gsv pk cpk gpk pg cpg (fun j => (gpg j).map (sg sa)) pp cpp gpp pz cpz gpz pv cpv gpv wg cwg (fun j => (gwg j).map (sg sa)) wp cwp gwp) ∧ sw sa (va_A (wz_121 h0 gl fu pa pf sf pk pg pp pz pv h0_reason h0_place sc h0_stepCount h0_open h0_twoSides wg wp h0_waitingCount sc tr (sg sa sc_sign) sc_place sc_size sc_value ss sp szs sv sc_length sc_at tr tx tr_length ss css (fun j => (gss j).map (sg sa)) sp csp gsp szs cszs gszs sv csv gsv pk cpk gpk pg cpg (fun j => (gpg j).map (sg sa)) pp cpp gpp pz cpz gpz pv cpv gpv wg cwg (fun j => (gwg j).map (sg sa)) wp cwp gwp) sz) U U.heap)) (tq_Q (tq_v (fun (u : (Nat → Option Nat) × (Nat → Int32) × (Nat → Int32) × (Nat → Int64) × (Nat → Int32) × (Nat → Option Nat) × (Nat → Int32) × Int32 × Int32 × Int32 × Int32 × Int32 × Int32 × Int32 × Nat × Int32 × Int64) => match u with | (gpg2, gpk2, gpp2, gpv2, gpz2, gwg2, gwp2, h0_place2, h0_reason2, h0_stepCount2, h0_twoSides2, h0_waitingCount2, sc_at2, sc_place2, sc_sign2, sc_size2, sc_value2) => (0 ≤ h0_stepCount2.toInt ∧ h0_stepCount2.toInt ≤ 4100) ∧ (0 ≤ h0_twoSides2.toInt ∧ h0_twoSides2.toInt ≤ 400) ∧ (0 ≤ h0_waitingCount2.toInt ∧ h0_waitingCount2.toInt ≤ 360) ∧ (-1 ≤ sc_at2.toInt ∧ sc_at2.toInt ≤ 2000) ∧ (0 ≤ sc_place2.toInt ∧ sc_place2.toInt ≤ 2000) ∧ (sc_sign2 < 55) ∧ (0 ≤ sc_size2.toInt ∧ sc_size2.toInt ≤ 2000) ∧ (sk tr_length.toInt sc_length.toInt sc_at2.toInt sc_sign2 sc_place2 sc_size2 sc_value2 gss gsp gszs gsv ∧ (p0.toInt < h0_waitingCount2.toInt ∧ h0_waitingCount2.toInt ≤ p0.toInt + 7) ∧ py gwg2 p0.toInt.toNat (h0_waitingCount2.toInt - p0.toInt).toNat ∧ pX gB (fun S => pw gwg2 p0.toInt.toNat (h0_waitingCount2.toInt - p0.toInt).toNat S) gl0 (sl gpk2 gpg2 gpp2 gpz2 gpv2 h0_stepCount2.toInt) (gD + (20 * sc_place2.toInt - 20 * sc_place.toInt) + 10 - pvc gwg2 p0.toInt.toNat (h0_waitingCount2.toInt - p0.toInt).toNat) ∧ wk p0.toInt gwg gwg2 ∧ sc_place.toInt + 1 ≤ sc_place2.toInt)) "java/lang/UnsupportedOperationException" (fun (u : (Nat → Option Nat) × (Nat → Int32) × (Nat → Int32) × (Nat → Int64) × (Nat → Int32) × (Nat → Option Nat) × (Nat → Int32) × Int32 × Int32 × Int32 × Int32 × Int32 × Int32 × Int32 × Nat × Int32 × Int64) => match u with | (gpg2, gpk2, gpp2, gpv2, gpz2, gwg2, gwp2, h0_place2, h0_reason2, h0_stepCount2, h0_twoSides2, h0_waitingCount2, sc_at2, sc_place2, sc_sign2, sc_size2, sc_value2) => (0 ≤ h0_stepCount2.toInt ∧ h0_stepCount2.toInt ≤ 4100) ∧ (0 ≤ h0_twoSides2.toInt ∧ h0_twoSides2.toInt ≤ 400) ∧ (0 ≤ h0_waitingCount2.toInt ∧ h0_waitingCount2.toInt ≤ 360) ∧ (-1 ≤ sc_at2.toInt ∧ sc_at2.toInt ≤ 2000) ∧ (0 ≤ sc_place2.toInt ∧ sc_place2.toInt ≤ 2000) ∧ (sc_sign2 < 55) ∧ (0 ≤ sc_size2.toInt ∧ sc_size2.toInt ≤ 2000))) (at_PR_readTwoSides dC dI sa h0 gl fu pa pf sf pk pg pp pz pv sc wg wp tr ss sp szs sv tx css csp cszs csv cpk cpg cpp cpz cpv cwg cwp h0_open sc_length tr_length gss gsp gszs gsv (va_A (wz_121 h0 gl fu pa pf sf pk pg pp pz pv h0_reason h0_place sc h0_stepCount h0_open h0_twoSides wg wp h0_waitingCount sc tr (sg sa sc_sign) sc_place sc_size sc_value ss sp szs sv sc_length sc_at tr tx tr_length ss css (fun j => (gss j).map (sg sa)) sp csp gsp szs cszs gszs sv csv gsv pk cpk gpk pg cpg (fun j => (gpg j).map (sg sa)) pp cpp gpp pz cpz gpz pv cpv gpv wg cwg (fun j => (gwg j).map (sg sa)) wp cwp gwp) sz)) (va_A (wz_121 h0 gl fu pa pf sf pk pg pp pz pv h0_reason h0_place sc h0_stepCount h0_open h0_twoSides wg wp h0_waitingCount sc tr (sg sa sc_sign) sc_place sc_size sc_value ss sp szs sv sc_length sc_at tr tx tr_length ss css (fun j => (gss j).map (sg sa)) sp csp gsp szs cszs gszs sv csv gsv pk cpk gpk pg cpg (fun j => (gpg j).map (sg sa)) pp cpp gpp pz cpz gpz pv cpv gpv wg cwg (fun j => (gwg j).map (sg sa)) wp cwp gwp) sz)) (tz_k 0 0 1 6) (va_A (wz_121 h0 gl fu pa pf sf pk pg pp pz pv h0_reason h0_place sc h0_stepCount h0_open h0_twoSides wg wp h0_waitingCount sc tr (sg sa sc_sign) sc_place sc_size sc_value ss sp szs sv sc_length sc_at tr tx tr_length ss css (fun j => (gss j).map (sg sa)) sp csp gsp szs cszs gszs sv csv gsv pk cpk gpk pg cpg (fun j => (gpg j).map (sg sa)) pp cpp gpp pz cpz gpz pv cpv gpv wg cwg (fun j => (gwg j).map (sg sa)) wp cwp gwp) sz) := by
  refine tz_ofW (cc := b_PR_readTwoSides) (maxL := 4) (ret := none) (by decide) rfl ?_
  intro p e s m args below meth c s₁ B hml hno hv
  obtain ⟨rfl, hsz, hP, hK, hD0, hSW⟩ := hv
  have hx := B.exec
  have hb := B.bytes
  have hr := B.returns
  have hts0 := atoms_spec (ws := w_PR_readTwoSides) B.pre
  have hts : ∀ w ∈ lw_g, w.before _ s = true := fun w h => hts0 w (List.mem_cons_of_mem _ h)
  have hown : s.vm.findClass R_PR = some m.cls := findClass_of_methodNamed B.named
  have hlocks := B.notSynchronized
  clear hts0
  subst hsz
  have hD := hD0.self (sz := s.heap.size)
  generalize hAe : va_A (wz_121 h0 gl fu pa pf sf pk pg pp pz pv h0_reason h0_place sc h0_stepCount h0_open h0_twoSides wg wp h0_waitingCount sc tr (sg sa sc_sign) sc_place sc_size sc_value ss sp szs sv sc_length sc_at tr tx tr_length ss css (fun j => (gss j).map (sg sa)) sp csp gsp szs cszs gszs sv csv gsv pk cpk gpk pg cpg (fun j => (gpg j).map (sg sa)) pp cpp gpp pz cpz gpz pv cpv gpv wg cwg (fun j => (gwg j).map (sg sa)) wp cwp gwp) s.heap.size = A at hD hSW ⊢
  have hA : ∀ q : Nat, s.heap.size ≤ q → A q := fun q h => by rw [← hAe]; exact Or.inr h
  clear hAe
  have hP : va_P (dC, dI) cls (wz_121 h0 gl fu pa pf sf pk pg pp pz pv h0_reason h0_place sc h0_stepCount h0_open h0_twoSides wg wp h0_waitingCount sc tr (sg sa sc_sign) sc_place sc_size sc_value ss sp szs sv sc_length sc_at tr tx tr_length ss css (fun j => (gss j).map (sg sa)) sp csp gsp szs cszs gszs sv csv gsv pk cpk gpk pg cpg (fun j => (gpg j).map (sg sa)) pp cpp gpp pz cpz gpz pv cpv gpv wg cwg (fun j => (gwg j).map (sg sa)) wp cwp gwp) s.heap := hP
  have hl := lv_entry ([.ref h0, .int p0]) (n := 4) (Nat.le_of_ble_eq_true rfl)
  rw [lg_entry_eq]
  generalize (lg_sl ([.ref h0, .int p0]) ++ List.replicate (4 - (lg_sl ([.ref h0, .int p0])).length) Slot.unset).toArray = ls at hl ⊢
  have hl : lv_has ls 4 [(0, .ref h0), (1, .int p0)] := hl
  have k0 : (0 : Int32).toInt = 0 := by decide
  refine w_gen (A := A) hP (fun H locs hP hS => ?_)
  have k1 : (1 : Int32).toInt = 1 := by decide
  have k2 : (2 : Int32).toInt = 2 := by decide
  have k3 : (3 : Int32).toInt = 3 := by decide
  have k200 : (200 : Int32).toInt = 200 := by decide
  have lo_p0 := i32_lo p0
  have hi_p0 := i32_hi p0
  have isk := sk_is hsk
  have zz := sk_pos hsk (by (first | (apply Int.le_antisymm <;> omega) | omega)) (by (first | (apply Int.le_antisymm <;> omega) | omega))
  have hco := hw_cost (fun z => sk_len hsk z (by decide) (n := 2) rfl) (fun z => sk_len hsk z (by decide) (n := 2) rfl) zz
  have lv := sg_lv sc_sign isk.1
  refine lv_aload_n hx hb d_PR_readTwoSides_0 rfl (lv_at hl 0 rfl) ?_
  refine va_get (D := (dC, dI)) (ci := 6) (v := .ref sc) (C := R_PR) (T := F_PR) (N := 19) hx hb hts i_PR hown hK hP 0 rfl rfl 12 (by decide) (hts _ kF_PR_43) (fun _ h9 => h9) rfl d_PR_readTwoSides_1 ?_
  refine va_get (D := (dC, dI)) (ci := 8) (v := .ref (sg sa sc_sign)) (C := R_SC) (T := F_SC) (N := 11) hx hb hts i_SC hown hK hP 1 rfl rfl 1 (by decide) (hts _ kF_PR_93) (fun _ h9 => h9) rfl d_PR_readTwoSides_4 ?_
  refine lv_astore_n (lv' := [(2, .ref (sg sa sc_sign)), (0, .ref h0), (1, .int p0)]) hx hb d_PR_readTwoSides_7 rfl hl (by decide) rfl (fun ls hl => ?_)
  refine lv_aload_n hx hb d_PR_readTwoSides_8 rfl (lv_at hl 1 rfl) ?_
  refine va_get (D := (dC, dI)) (ci := 6) (v := .ref sc) (C := R_PR) (T := F_PR) (N := 19) hx hb hts i_PR hown hK hP 0 rfl rfl 12 (by decide) (hts _ kF_PR_43) (fun _ h9 => h9) rfl d_PR_readTwoSides_9 ?_
  refine va_get (D := (dC, dI)) (ci := 8) (v := .int sc_place) (C := R_SC) (T := F_SC) (N := 11) hx hb hts i_SC hown hK hP 1 rfl rfl 2 (by decide) (hts _ kF_PR_109) (fun _ h9 => h9) rfl d_PR_readTwoSides_12 ?_
  refine lv_istore_n (lv' := [(3, .int sc_place), (2, .ref (sg sa sc_sign)), (0, .ref h0), (1, .int p0)]) hx hb d_PR_readTwoSides_15 rfl hl (by decide) rfl (fun ls hl => ?_)
  refine lv_aload_n hx hb d_PR_readTwoSides_16 rfl (lv_at hl 2 rfl) ?_
  refine lv_iload_n hx hb d_PR_readTwoSides_17 rfl (lv_at hl 3 rfl) ?_
  refine lv_aload_n hx hb d_PR_readTwoSides_18 rfl (lv_at hl 1 rfl) ?_
  refine va_getE (i := sc_sign) (q := ("WaferForge$Sign", "level", "I", sg_level)) hx hb hSW.2.2.2.1 b_sc_sign hS hown (List.mem_of_getElem? (i := 1) rfl) (hts _ kF_PR_241) (fun _ h9 => h9) d_PR_readTwoSides_19 ?_
  refine lv_topi (fun x1 ex1 => ?_)
  have ex1 : x1 = sg_level.getD sc_sign 0 := ex1
  have l19 : x1.toInt = lvl sc_sign := by rw [ex1]; rfl
  refine lv_iconst (v := 1) hx hb d_PR_readTwoSides_22 (by decide) ?_
  refine lv_iadd hx hb d_PR_readTwoSides_23 ?_
  refine lv_topi (fun x2 ex2 => ?_)
  have tx2 : x2.toInt = x1.toInt + 1 := by have z := i32_add ex2 (by (first | (apply Int.le_antisymm <;> omega) | omega)) (by (first | (apply Int.le_antisymm <;> omega) | omega)); first | exact z | (first | (apply Int.le_antisymm <;> omega) | omega)
  have hPc := hP.sb (wq := (wz_122 h0 gl fu pa pf sf pk pg pp pz pv h0_reason h0_place sc h0_stepCount h0_open h0_twoSides wg wp h0_waitingCount pk cpk gpk pg cpg (fun j => (gpg j).map (sg sa)) pp cpp gpp pz cpz gpz pv cpv gpv wg cwg (fun j => (gwg j).map (sg sa)) wp cwp gwp)) [0, 7, 8, 9, 10, 11, 12, 13] rfl
  have hDc := hD.sb (wq := (wz_122 h0 gl fu pa pf sf pk pg pp pz pv h0_reason h0_place sc h0_stepCount h0_open h0_twoSides wg wp h0_waitingCount pk cpk gpk pg cpg (fun j => (gpg j).map (sg sa)) pp cpp gpp pz cpz gpz pv cpv gpv wg cwg (fun j => (gwg j).map (sg sa)) wp cwp gwp)) [0, 7, 8, 9, 10, 11, 12, 13] (by decide) rfl
  have hKc := hK.sb (tyq := [(cpk, .int), (cpg, .object "WaferForge$Sign"), (cpp, .int), (cpz, .int), (cpv, .long), (cwg, .object "WaferForge$Sign"), (cwp, .int)]) [4, 5, 6, 7, 8, 9, 10] rfl
  have hFc := va_free (wc := (wz_122 h0 gl fu pa pf sf pk pg pp pz pv h0_reason h0_place sc h0_stepCount h0_open h0_twoSides wg wp h0_waitingCount pk cpk gpk pg cpg (fun j => (gpg j).map (sg sa)) pp cpp gpp pz cpz gpz pv cpv gpv wg cwg (fun j => (gwg j).map (sg sa)) wp cwp gwp)) hD hS hA [0, 7, 8, 9, 10, 11, 12, 13] rfl
  refine va_callv (va_runV (As := [.int p0, .int x2]) (rest := []) ⟨hx, hb, hml, hown, hts⟩ (c_PR_settle l dC dI H.size sa h0 gl fu pa pf sf pk pg pp pz pv sc wg wp cpk cpg cpp cpz cpv cwg cwp h0_reason h0_place h0_stepCount h0_open h0_twoSides h0_waitingCount gpk gpg gpp gpz gpv gwg gwp gB gD gl0 (b_h0_stepCount) (b_h0_waitingCount) p0 x2 (hX) (hpy) (by (try dsimp only) <;> (first | (apply Int.le_antisymm <;> omega) | omega)) (by (try dsimp only) <;> (first | (apply Int.le_antisymm <;> omega) | omega)) (by (try dsimp only) <;> (first | (apply Int.le_antisymm <;> omega) | omega))) (cwV 2 hts (gV kM_PR_248 kV_PR_settle kS_PR_settle kI_PR kC_PR_settle) rfl rfl rfl (by decide +kernel) ⟨Nat.le_of_ble_eq_true rfl, Nat.le_of_ble_eq_true rfl⟩) ⟨fun a U g mk z => by obtain ⟨z0, z1, zP, zK, zD, zS⟩ := z; exact ⟨z0, z1, zP, va_K.moved (u := U) (U := U.calling g mk a) (Vm.Alike.refl U.vm) zK, zD, sw.same (u := U) (U := U.calling g mk a) rfl zS⟩, va_recv hKc hPc (ci := 6) (q0 := 0) rfl rfl, fun U hU hW => ⟨rfl, by rw [hU], va_P.he hU.symm hPc, va_K.moved hW.alike hKc, hDc.weaken (fun _ _ _ _ => trivial), hSW.call hS hFc hW hU⟩⟩ rfl rfl hl.1 rfl (lv_room (Nat.le_of_ble_eq_true rfl)) d_PR_readTwoSides_24 ⟨(Nat.zero_le _), (Nat.zero_le _)⟩) hS (fun q _ h => hFc q h) hFc (fun u t H1 locs ht hvm hw hB hz1 hk1 hS => ?_)
  obtain ⟨n4, n5, n6, n7, n8, n9, n10⟩ := u
  try dsimp only at hw
  obtain ⟨bn9, bn10, xr3⟩ := hw
  try clear hw
  have hX := xr3.2.2
  have sr3 := xr3.1
  have kr3 := xr3.2.1
  clear xr3
  have y9 := pX_len hX
  rw [sl_len] at y9
  clear kr3
  have hpy := py_le (i2 := (n10.toInt - p0.toInt).toNat) hpy (by (first | (apply Int.le_antisymm <;> omega) | omega))
  have v9 := pvc_pos (g := gwg) (f := p0.toInt.toNat) (n10.toInt - p0.toInt).toNat
  obtain ⟨hP1, hK1, hD1⟩ := hB
  replace hP1 := va_P.he ht hP1
  obtain ⟨hP, hD⟩ := va_join (wr := (wz_107 sc tr (sg sa sc_sign) sc_place sc_size sc_value ss sp szs sv sc_length sc_at tr tx tr_length ss css (fun j => (gss j).map (sg sa)) sp csp gsp szs cszs gszs sv csv gsv)) (w1 := (wz_122 h0 gl fu pa pf sf pk pg pp pz pv h0_reason h0_place sc n9 h0_open h0_twoSides wg wp n10 pk cpk n5 pg cpg (fun j => (n4 j).map (sg sa)) pp cpp n6 pz cpz n8 pv cpv n7 wg cwg (fun j => (gwg j).map (sg sa)) wp cwp gwp)) hP hD [0, 7, 8, 9, 10, 11, 12, 13] [1, 2, 3, 4, 5, 6] rfl rfl (by decide) (by decide) hk1 hFc hP1 hD1
  clear hPc hDc hKc hFc hz1 hk1 hP1 hK1 hD1
  rename Heap => H
  have hP : va_P (dC, dI) cls (wz_136 sc tr (sg sa sc_sign) sc_place sc_size sc_value ss sp szs sv sc_length sc_at tr tx tr_length ss css (fun j => (gss j).map (sg sa)) sp csp gsp szs cszs gszs sv csv gsv h0 gl fu pa pf sf pk pg pp pz pv h0_reason h0_place sc n9 h0_open h0_twoSides wg wp n10 pk cpk n5 pg cpg (fun j => (n4 j).map (sg sa)) pp cpp n6 pz cpz n8 pv cpv n7 wg cwg (fun j => (gwg j).map (sg sa)) wp cwp gwp) H := hP
  have hD : va_D A (wz_136 sc tr (sg sa sc_sign) sc_place sc_size sc_value ss sp szs sv sc_length sc_at tr tx tr_length ss css (fun j => (gss j).map (sg sa)) sp csp gsp szs cszs gszs sv csv gsv h0 gl fu pa pf sf pk pg pp pz pv h0_reason h0_place sc n9 h0_open h0_twoSides wg wp n10 pk cpk n5 pg cpg (fun j => (n4 j).map (sg sa)) pp cpp n6 pz cpz n8 pv cpv n7 wg cwg (fun j => (gwg j).map (sg sa)) wp cwp gwp) := hD
  refine lv_aload_n hx hb d_PR_readTwoSides_27 rfl (lv_at hl 1 rfl) ?_
  refine va_getE (i := sc_sign) (q := ("WaferForge$Sign", "level", "I", sg_level)) hx hb hSW.2.2.2.1 b_sc_sign hS hown (List.mem_of_getElem? (i := 1) rfl) (hts _ kF_PR_241) (fun _ h9 => h9) d_PR_readTwoSides_28 ?_
  refine lv_topi (fun x11 ex11 => ?_)
  have ex11 : x11 = sg_level.getD sc_sign 0 := ex11
  refine lv_iconst (v := 3) hx hb d_PR_readTwoSides_31 (by decide) ?_
  refine w_cut (pc2 := 67) (σ := Unit) (fun u H locs ls => match u with | _ => va_P (dC, dI) cls (wz_136 sc tr (sg sa sc_sign) sc_place sc_size sc_value ss sp szs sv sc_length sc_at tr tx tr_length ss css (fun j => (gss j).map (sg sa)) sp csp gsp szs cszs gszs sv csv gsv h0 gl fu pa pf sf pk pg pp pz pv h0_reason h0_place sc n9 h0_open h0_twoSides wg wp n10 pk cpk n5 pg cpg (fun j => (n4 j).map (sg sa)) pp cpp n6 pz cpz n8 pv cpv n7 wg cwg (fun j => (gwg j).map (sg sa)) wp cwp gwp) H ∧ va_D A (wz_136 sc tr (sg sa sc_sign) sc_place sc_size sc_value ss sp szs sv sc_length sc_at tr tx tr_length ss css (fun j => (gss j).map (sg sa)) sp csp gsp szs cszs gszs sv csv gsv h0 gl fu pa pf sf pk pg pp pz pv h0_reason h0_place sc n9 h0_open h0_twoSides wg wp n10 pk cpk n5 pg cpg (fun j => (n4 j).map (sg sa)) pp cpp n6 pz cpz n8 pv cpv n7 wg cwg (fun j => (gwg j).map (sg sa)) wp cwp gwp) ∧ va_S A s.heap H locs ∧ lv_has ls 4 [(0, .ref h0), (1, .int p0), (2, .ref (sg sa sc_sign)), (3, .int sc_place)]) (fun u => match u with | _ => []) ?_ (fun jn67 => ?_)
  · intro u H locs ls hI
    obtain ⟨hP, hD, hS, hl⟩ := hI
    refine lv_aload_n hx hb d_PR_readTwoSides_67 rfl (lv_at hl 0 rfl) ?_
    refine va_get (D := (dC, dI)) (ci := 6) (v := .int h0_twoSides) (C := R_PR) (T := F_PR) (N := 19) hx hb hts i_PR hown hK hP 6 rfl rfl 15 (by decide) (hts _ kF_PR_172) (fun _ h9 => h9) rfl d_PR_readTwoSides_68 ?_
    refine lv_sipush (v := 200) hx hb d_PR_readTwoSides_71 (by decide) ?_
    refine lv_icmp_lt (tgt := 81) hx hb d_PR_readTwoSides_74 (by decide) (fun c74 => ?_) (fun c74 => ?_)
    · have q74 := ltI c74
      refine lv_aload_n hx hb d_PR_readTwoSides_81 rfl (lv_at hl 0 rfl) ?_
      refine lv_dup hx hb d_PR_readTwoSides_82 rfl ?_
      refine va_get (D := (dC, dI)) (ci := 6) (v := .int h0_twoSides) (C := R_PR) (T := F_PR) (N := 19) hx hb hts i_PR hown hK hP 6 rfl rfl 15 (by decide) (hts _ kF_PR_172) (fun _ h9 => h9) rfl d_PR_readTwoSides_83 ?_
      refine lv_iconst (v := 1) hx hb d_PR_readTwoSides_86 (by decide) ?_
      refine lv_iadd hx hb d_PR_readTwoSides_87 ?_
      refine lv_topi (fun x12 ex12 => ?_)
      have tx12 : x12.toInt = h0_twoSides.toInt + 1 := by have z := i32_add ex12 (by (first | (apply Int.le_antisymm <;> omega) | omega)) (by (first | (apply Int.le_antisymm <;> omega) | omega)); first | exact z | (first | (apply Int.le_antisymm <;> omega) | omega)
      refine va_put (D := (dC, dI)) (ci := 6) (v := .int x12) (ty := .int) (C := R_PR) (T := F_PR) (N := 19) hx hb hts i_PR t_PR t_PR_ok n_PR hown hK hP hD hS 6 rfl rfl 15 (by decide) (hts _ kF_PR_172) (fun _ h9 => h9) rfl (by decide +kernel) rfl rfl (Nat.le_of_ble_eq_true rfl) d_PR_readTwoSides_88 (fun H locs hP hD hS => ?_)
      refine lv_aload_n hx hb d_PR_readTwoSides_91 rfl (lv_at hl 0 rfl) ?_
      refine lv_iload_n hx hb d_PR_readTwoSides_92 rfl (lv_at hl 1 rfl) ?_
      refine lv_aload_n hx hb d_PR_readTwoSides_93 rfl (lv_at hl 2 rfl) ?_
      refine va_getE (i := sc_sign) (q := ("WaferForge$Sign", "level", "I", sg_level)) hx hb hSW.2.2.2.1 b_sc_sign hS hown (List.mem_of_getElem? (i := 1) rfl) (hts _ kF_PR_241) (fun _ h9 => h9) d_PR_readTwoSides_94 ?_
      refine lv_topi (fun x13 ex13 => ?_)
      have ex13 : x13 = sg_level.getD sc_sign 0 := ex13
      have l94 : x13.toInt = lvl sc_sign := by rw [ex13]; rfl
      have hPc := hP.sb (wq := (wz_122 h0 gl fu pa pf sf pk pg pp pz pv h0_reason h0_place sc n9 h0_open x12 wg wp n10 pk cpk n5 pg cpg (fun j => (n4 j).map (sg sa)) pp cpp n6 pz cpz n8 pv cpv n7 wg cwg (fun j => (gwg j).map (sg sa)) wp cwp gwp)) [6, 7, 8, 9, 10, 11, 12, 13] rfl
      have hDc := hD.sb (wq := (wz_122 h0 gl fu pa pf sf pk pg pp pz pv h0_reason h0_place sc n9 h0_open x12 wg wp n10 pk cpk n5 pg cpg (fun j => (n4 j).map (sg sa)) pp cpp n6 pz cpz n8 pv cpv n7 wg cwg (fun j => (gwg j).map (sg sa)) wp cwp gwp)) [6, 7, 8, 9, 10, 11, 12, 13] (by decide) rfl
      have hKc := hK.sb (tyq := [(cpk, .int), (cpg, .object "WaferForge$Sign"), (cpp, .int), (cpz, .int), (cpv, .long), (cwg, .object "WaferForge$Sign"), (cwp, .int)]) [4, 5, 6, 7, 8, 9, 10] rfl
      have hFc := va_free (wc := (wz_122 h0 gl fu pa pf sf pk pg pp pz pv h0_reason h0_place sc n9 h0_open x12 wg wp n10 pk cpk n5 pg cpg (fun j => (n4 j).map (sg sa)) pp cpp n6 pz cpz n8 pv cpv n7 wg cwg (fun j => (gwg j).map (sg sa)) wp cwp gwp)) hD hS hA [6, 7, 8, 9, 10, 11, 12, 13] rfl
      refine va_callv (va_runV (As := [.int p0, .int x13]) (rest := []) ⟨hx, hb, hml, hown, hts⟩ (c_PR_settle l dC dI H.size sa h0 gl fu pa pf sf pk pg pp pz pv sc wg wp cpk cpg cpp cpz cpv cwg cwp h0_reason h0_place n9 h0_open x12 n10 n5 n4 n6 n8 n7 gwg gwp gB gD gl0 (bn9) (bn10) p0 x13 (hX) (hpy) (by (try dsimp only) <;> (first | (apply Int.le_antisymm <;> omega) | omega)) (by (try dsimp only) <;> (first | (apply Int.le_antisymm <;> omega) | omega)) (by (try dsimp only) <;> (first | (apply Int.le_antisymm <;> omega) | omega))) (cwV 2 hts (gV kM_PR_248 kV_PR_settle kS_PR_settle kI_PR kC_PR_settle) rfl rfl rfl (by decide +kernel) ⟨Nat.le_of_ble_eq_true rfl, Nat.le_of_ble_eq_true rfl⟩) ⟨fun a U g mk z => by obtain ⟨z0, z1, zP, zK, zD, zS⟩ := z; exact ⟨z0, z1, zP, va_K.moved (u := U) (U := U.calling g mk a) (Vm.Alike.refl U.vm) zK, zD, sw.same (u := U) (U := U.calling g mk a) rfl zS⟩, va_recv hKc hPc (ci := 6) (q0 := 0) rfl rfl, fun U hU hW => ⟨rfl, by rw [hU], va_P.he hU.symm hPc, va_K.moved hW.alike hKc, hDc.weaken (fun _ _ _ _ => trivial), hSW.call hS hFc hW hU⟩⟩ rfl rfl hl.1 rfl (lv_room (Nat.le_of_ble_eq_true rfl)) d_PR_readTwoSides_97 ⟨(Nat.zero_le _), (Nat.zero_le _)⟩) hS (fun q _ h => hFc q h) hFc (fun u t H1 locs ht hvm hw hB hz1 hk1 hS => ?_)
      obtain ⟨n15, n16, n17, n18, n19, n20, n21⟩ := u
      try dsimp only at hw
      obtain ⟨bn20, bn21, xr14⟩ := hw
      try clear hw
      have hX := xr14.2.2
      have sr14 := xr14.1
      have kr14 := xr14.2.1
      clear xr14
      have y9 := pX_len hX
      rw [sl_len] at y9
      have q97 := py_top (i2 := (n21.toInt - p0.toInt).toNat) (L := x13.toInt) (k := 0) hpy (by clear kr14; (first | (apply Int.le_antisymm <;> omega) | omega)) (fun z => by rw [show p0.toInt.toNat + (n21.toInt - p0.toInt).toNat - 1 = (n21.toInt - 1).toNat from (by clear kr14; (first | (apply Int.le_antisymm <;> omega) | omega))]; exact kr14 (by clear kr14; (first | (apply Int.le_antisymm <;> omega) | omega))) (by clear kr14; (first | (apply Int.le_antisymm <;> omega) | omega))
      clear kr14
      have hpy := py_le (i2 := (n21.toInt - p0.toInt).toNat) hpy (by (first | (apply Int.le_antisymm <;> omega) | omega))
      have v8 := pvc_pos (g := gwg) (f := p0.toInt.toNat) (n21.toInt - p0.toInt).toNat
      obtain ⟨hP1, hK1, hD1⟩ := hB
      replace hP1 := va_P.he ht hP1
      obtain ⟨hP, hD⟩ := va_join (wr := (wz_107 sc tr (sg sa sc_sign) sc_place sc_size sc_value ss sp szs sv sc_length sc_at tr tx tr_length ss css (fun j => (gss j).map (sg sa)) sp csp gsp szs cszs gszs sv csv gsv)) (w1 := (wz_122 h0 gl fu pa pf sf pk pg pp pz pv h0_reason h0_place sc n20 h0_open x12 wg wp n21 pk cpk n16 pg cpg (fun j => (n15 j).map (sg sa)) pp cpp n17 pz cpz n19 pv cpv n18 wg cwg (fun j => (gwg j).map (sg sa)) wp cwp gwp)) hP hD [6, 7, 8, 9, 10, 11, 12, 13] [0, 1, 2, 3, 4, 5] rfl rfl (by decide) (by decide) hk1 hFc hP1 hD1
      clear hPc hDc hKc hFc hz1 hk1 hP1 hK1 hD1
      rename Heap => H
      have hP : va_P (dC, dI) cls (wz_136 sc tr (sg sa sc_sign) sc_place sc_size sc_value ss sp szs sv sc_length sc_at tr tx tr_length ss css (fun j => (gss j).map (sg sa)) sp csp gsp szs cszs gszs sv csv gsv h0 gl fu pa pf sf pk pg pp pz pv h0_reason h0_place sc n20 h0_open x12 wg wp n21 pk cpk n16 pg cpg (fun j => (n15 j).map (sg sa)) pp cpp n17 pz cpz n19 pv cpv n18 wg cwg (fun j => (gwg j).map (sg sa)) wp cwp gwp) H := hP
      have hD : va_D A (wz_136 sc tr (sg sa sc_sign) sc_place sc_size sc_value ss sp szs sv sc_length sc_at tr tx tr_length ss css (fun j => (gss j).map (sg sa)) sp csp gsp szs cszs gszs sv csv gsv h0 gl fu pa pf sf pk pg pp pz pv h0_reason h0_place sc n20 h0_open x12 wg wp n21 pk cpk n16 pg cpg (fun j => (n15 j).map (sg sa)) pp cpp n17 pz cpz n19 pv cpv n18 wg cwg (fun j => (gwg j).map (sg sa)) wp cwp gwp) := hD
      refine lv_aload_n hx hb d_PR_readTwoSides_100 rfl (lv_at hl 2 rfl) ?_
      refine va_gets (C := "WaferForge$Sign") (n := "OR") (d := "LWaferForge$Sign;") (v := .ref (sg sa 36)) hx hb ((hSW.2.2.2.1.1 36 (by decide)).1) hS hown (hts _ kF_PR_251) (fun _ h9 => h9) d_PR_readTwoSides_101 ?_
      refine w_cut (pc2 := 123) (σ := (Nat → Option Nat) × (Nat → Int32) × (Nat → Int32) × (Nat → Int64) × (Nat → Int32) × Int32) (fun u H locs ls => match u with | (j123_pg, j123_pk, j123_pp, j123_pv, j123_pz, j123_h0_stepCount) => (0 ≤ j123_h0_stepCount.toInt ∧ j123_h0_stepCount.toInt ≤ 4100) ∧ (pX gB (fun S => itm sc_sign :: pw gwg p0.toInt.toNat (n21.toInt - p0.toInt).toNat S) gl0 (sl j123_pk j123_pg j123_pp j123_pz j123_pv j123_h0_stepCount.toInt) (gD - pvc gwg p0.toInt.toNat (n21.toInt - p0.toInt).toNat + hcost sc_sign)) ∧ va_P (dC, dI) cls (wz_136 sc tr (sg sa sc_sign) sc_place sc_size sc_value ss sp szs sv sc_length sc_at tr tx tr_length ss css (fun j => (gss j).map (sg sa)) sp csp gsp szs cszs gszs sv csv gsv h0 gl fu pa pf sf pk pg pp pz pv h0_reason h0_place sc j123_h0_stepCount h0_open x12 wg wp n21 pk cpk j123_pk pg cpg (fun j => (j123_pg j).map (sg sa)) pp cpp j123_pp pz cpz j123_pz pv cpv j123_pv wg cwg (fun j => (gwg j).map (sg sa)) wp cwp gwp) H ∧ va_D A (wz_136 sc tr (sg sa sc_sign) sc_place sc_size sc_value ss sp szs sv sc_length sc_at tr tx tr_length ss css (fun j => (gss j).map (sg sa)) sp csp gsp szs cszs gszs sv csv gsv h0 gl fu pa pf sf pk pg pp pz pv h0_reason h0_place sc j123_h0_stepCount h0_open x12 wg wp n21 pk cpk j123_pk pg cpg (fun j => (j123_pg j).map (sg sa)) pp cpp j123_pp pz cpz j123_pz pv cpv j123_pv wg cwg (fun j => (gwg j).map (sg sa)) wp cwp gwp) ∧ va_S A s.heap H locs ∧ lv_has ls 4 [(0, .ref h0), (2, .ref (sg sa sc_sign)), (3, .int sc_place)]) (fun u => match u with | (j123_pg, j123_pk, j123_pp, j123_pv, j123_pz, j123_h0_stepCount) => []) ?_ (fun jn123 => ?_)
      · intro u H locs ls hI
        obtain ⟨j123_pg, j123_pk, j123_pp, j123_pv, j123_pz, j123_h0_stepCount⟩ := u
        obtain ⟨b_j123_h0_stepCount, hX, hP, hD, hS, hl⟩ := hI
        refine lv_aload_n hx hb d_PR_readTwoSides_123 rfl (lv_at hl 0 rfl) ?_
        refine lv_aload_n hx hb d_PR_readTwoSides_124 rfl (lv_at hl 1 rfl) ?_
        refine lv_iload_n hx hb d_PR_readTwoSides_125 rfl (lv_at hl 2 rfl) ?_
        have hPc := hP.sb (wq := (wz_113 h0 gl fu pa pf sf pk pg pp pz pv h0_reason h0_place sc j123_h0_stepCount h0_open x12 wg wp n21 wg cwg (fun j => (gwg j).map (sg sa)) wp cwp gwp)) [6, 12, 13] rfl
        have hDc := hD.sb (wq := (wz_113 h0 gl fu pa pf sf pk pg pp pz pv h0_reason h0_place sc j123_h0_stepCount h0_open x12 wg wp n21 wg cwg (fun j => (gwg j).map (sg sa)) wp cwp gwp)) [6, 12, 13] (by decide) rfl
        have hKc := hK.sb (tyq := [(cwg, .object "WaferForge$Sign"), (cwp, .int)]) [9, 10] rfl
        have hFc := va_free (wc := (wz_113 h0 gl fu pa pf sf pk pg pp pz pv h0_reason h0_place sc j123_h0_stepCount h0_open x12 wg wp n21 wg cwg (fun j => (gwg j).map (sg sa)) wp cwp gwp)) hD hS hA [6, 12, 13] rfl
        refine va_callv (va_runV (As := [.ref (sg sa sc_sign), .int sc_place]) (rest := []) ⟨hx, hb, hml, hown, hts⟩ (c_PR_hold l dC dI H.size sa h0 gl fu pa pf sf pk pg pp pz pv sc wg wp cwg cwp h0_reason h0_place j123_h0_stepCount h0_open x12 n21 gwg gwp (bn21) sc_sign sc_place (b_sc_sign) (by (try dsimp only) <;> (first | (apply Int.le_antisymm <;> omega) | omega))) (cwV 2 hts (gV kM_PR_257 kV_PR_hold kS_PR_hold kI_PR kC_PR_hold) rfl rfl rfl (by decide +kernel) ⟨Nat.le_of_ble_eq_true rfl, Nat.le_of_ble_eq_true rfl⟩) ⟨fun a U g mk z => by obtain ⟨z0, z1, zP, zK, zD, zS⟩ := z; exact ⟨z0, z1, zP, va_K.moved (u := U) (U := U.calling g mk a) (Vm.Alike.refl U.vm) zK, zD, sw.same (u := U) (U := U.calling g mk a) rfl zS⟩, va_recv hKc hPc (ci := 6) (q0 := 0) rfl rfl, fun U hU hW => ⟨rfl, by rw [hU], va_P.he hU.symm hPc, va_K.moved hW.alike hKc, hDc.weaken (fun _ _ _ _ => trivial), hSW.call hS hFc hW hU⟩⟩ rfl rfl hl.1 rfl (lv_room (Nat.le_of_ble_eq_true rfl)) d_PR_readTwoSides_126 ⟨(Nat.zero_le _), (Nat.zero_le _)⟩) hS (fun q _ h => hFc q h) hFc (fun u t H1 locs ht hvm hw hB hz1 hk1 hS => ?_)
        obtain ⟨n23, n24, n25⟩ := u
        try dsimp only at hw
        obtain ⟨bn25, xr22⟩ := hw
        try clear hw
        obtain ⟨hP1, hK1, hD1⟩ := hB
        replace hP1 := va_P.he ht hP1
        obtain ⟨hP, hD⟩ := va_join (wr := [(sc, .inr (8, [.ref tr, .ref (sg sa sc_sign), .int sc_place, .int sc_size, .long sc_value, .ref ss, .ref sp, .ref szs, .ref sv, .int sc_length, .int sc_at])), (tr, .inr (1, [.ref tx, .int tr_length])), (ss, .inl (css, 2001, .inr (.inr (.inr (.inr (fun j => (gss j).map (sg sa))))))), (sp, .inl (csp, 2001, .inl gsp)), (szs, .inl (cszs, 2001, .inl gszs)), (sv, .inl (csv, 2001, .inr (.inl gsv))), (pk, .inl (cpk, 4100, .inl j123_pk)), (pg, .inl (cpg, 4100, .inr (.inr (.inr (.inr (fun j => (j123_pg j).map (sg sa))))))), (pp, .inl (cpp, 4100, .inl j123_pp)), (pz, .inl (cpz, 4100, .inl j123_pz)), (pv, .inl (cpv, 4100, .inr (.inl j123_pv)))]) (w1 := (wz_113 h0 gl fu pa pf sf pk pg pp pz pv h0_reason h0_place sc j123_h0_stepCount h0_open x12 wg wp n25 wg cwg (fun j => (n23 j).map (sg sa)) wp cwp n24)) hP hD [6, 12, 13] [0, 1, 2, 3, 4, 5, 7, 8, 9, 10, 11] rfl rfl (by decide) (by decide) hk1 hFc hP1 hD1
        clear hPc hDc hKc hFc hz1 hk1 hP1 hK1 hD1
        rename Heap => H
        have hP : va_P (dC, dI) cls [(sc, .inr (8, [.ref tr, .ref (sg sa sc_sign), .int sc_place, .int sc_size, .long sc_value, .ref ss, .ref sp, .ref szs, .ref sv, .int sc_length, .int sc_at])), (tr, .inr (1, [.ref tx, .int tr_length])), (ss, .inl (css, 2001, .inr (.inr (.inr (.inr (fun j => (gss j).map (sg sa))))))), (sp, .inl (csp, 2001, .inl gsp)), (szs, .inl (cszs, 2001, .inl gszs)), (sv, .inl (csv, 2001, .inr (.inl gsv))), (pk, .inl (cpk, 4100, .inl j123_pk)), (pg, .inl (cpg, 4100, .inr (.inr (.inr (.inr (fun j => (j123_pg j).map (sg sa))))))), (pp, .inl (cpp, 4100, .inl j123_pp)), (pz, .inl (cpz, 4100, .inl j123_pz)), (pv, .inl (cpv, 4100, .inr (.inl j123_pv))), (h0, .inr (6, [.ref gl, .ref fu, .ref pa, .ref pf, .ref sf, .ref pk, .ref pg, .ref pp, .ref pz, .ref pv, .int h0_reason, .int h0_place, .ref sc, .int j123_h0_stepCount, .int h0_open, .int x12, .ref wg, .ref wp, .int n25])), (wg, .inl (cwg, 360, .inr (.inr (.inr (.inr (fun j => (n23 j).map (sg sa))))))), (wp, .inl (cwp, 360, .inl n24))] H := hP
        have hD : va_D A [(sc, .inr (8, [.ref tr, .ref (sg sa sc_sign), .int sc_place, .int sc_size, .long sc_value, .ref ss, .ref sp, .ref szs, .ref sv, .int sc_length, .int sc_at])), (tr, .inr (1, [.ref tx, .int tr_length])), (ss, .inl (css, 2001, .inr (.inr (.inr (.inr (fun j => (gss j).map (sg sa))))))), (sp, .inl (csp, 2001, .inl gsp)), (szs, .inl (cszs, 2001, .inl gszs)), (sv, .inl (csv, 2001, .inr (.inl gsv))), (pk, .inl (cpk, 4100, .inl j123_pk)), (pg, .inl (cpg, 4100, .inr (.inr (.inr (.inr (fun j => (j123_pg j).map (sg sa))))))), (pp, .inl (cpp, 4100, .inl j123_pp)), (pz, .inl (cpz, 4100, .inl j123_pz)), (pv, .inl (cpv, 4100, .inr (.inl j123_pv))), (h0, .inr (6, [.ref gl, .ref fu, .ref pa, .ref pf, .ref sf, .ref pk, .ref pg, .ref pp, .ref pz, .ref pv, .int h0_reason, .int h0_place, .ref sc, .int j123_h0_stepCount, .int h0_open, .int x12, .ref wg, .ref wp, .int n25])), (wg, .inl (cwg, 360, .inr (.inr (.inr (.inr (fun j => (n23 j).map (sg sa))))))), (wp, .inl (cwp, 360, .inl n24))] := hD
        refine lv_aload_n hx hb d_PR_readTwoSides_129 rfl (lv_at hl 0 rfl) ?_
        refine va_get (D := (dC, dI)) (ci := 6) (v := .ref sc) (C := R_PR) (T := F_PR) (N := 19) hx hb hts i_PR hown hK hP 11 rfl rfl 12 (by decide) (hts _ kF_PR_43) (fun _ h9 => h9) rfl d_PR_readTwoSides_130 ?_
        have hPc := hP.sb (wq := (wz_107 sc tr (sg sa sc_sign) sc_place sc_size sc_value ss sp szs sv sc_length sc_at tr tx tr_length ss css (fun j => (gss j).map (sg sa)) sp csp gsp szs cszs gszs sv csv gsv)) [0, 1, 2, 3, 4, 5] rfl
        have hDc := hD.sb (wq := (wz_107 sc tr (sg sa sc_sign) sc_place sc_size sc_value ss sp szs sv sc_length sc_at tr tx tr_length ss css (fun j => (gss j).map (sg sa)) sp csp gsp szs cszs gszs sv csv gsv)) [0, 1, 2, 3, 4, 5] (by decide) rfl
        have hKc := hK.sb (tyq := [(css, .object "WaferForge$Sign"), (csp, .int), (cszs, .int), (csv, .long)]) [0, 1, 2, 3] rfl
        have hFc := va_free (wc := (wz_107 sc tr (sg sa sc_sign) sc_place sc_size sc_value ss sp szs sv sc_length sc_at tr tx tr_length ss css (fun j => (gss j).map (sg sa)) sp csp gsp szs cszs gszs sv csv gsv)) hD hS hA [0, 1, 2, 3, 4, 5] rfl
        refine va_callv (va_runV (As := []) (rest := []) ⟨hx, hb, hml, hown, hts⟩ (c_SC_next l dC dI H.size sa sc tr ss sp szs sv tx css csp cszs csv sc_sign sc_place sc_size sc_value sc_length sc_at tr_length gss gsp gszs gsv (b_sc_sign) (b_sc_place) (b_sc_size) (b_sc_length) (b_sc_at) (b_tr_length) (hsk.1.2.1)) (cwV 0 hts (gV kM_PR_114 kV_SC_next kS_SC_next kI_SC kC_SC_next) rfl rfl rfl (by decide +kernel) ⟨Nat.le_of_ble_eq_true rfl, Nat.le_of_ble_eq_true rfl⟩) ⟨fun a U g mk z => by obtain ⟨z0, z1, zP, zK, zD, zS⟩ := z; exact ⟨z0, z1, zP, va_K.moved (u := U) (U := U.calling g mk a) (Vm.Alike.refl U.vm) zK, zD, sw.same (u := U) (U := U.calling g mk a) rfl zS⟩, va_recv hKc hPc (ci := 8) (q0 := 0) rfl rfl, fun U hU hW => ⟨rfl, by rw [hU], va_P.he hU.symm hPc, va_K.moved hW.alike hKc, hDc.weaken (fun _ _ _ _ => trivial), hSW.call hS hFc hW hU⟩⟩ rfl rfl hl.1 rfl (lv_room (Nat.le_of_ble_eq_true rfl)) d_PR_readTwoSides_133 ⟨(Nat.zero_le _), (Nat.zero_le _)⟩) hS (fun q _ h => hFc q h) hFc (fun u t H1 locs ht hvm hw hB hz1 hk1 hS => ?_)
        obtain ⟨n27, n28, n29, n30, n31⟩ := u
        try dsimp only at hw
        obtain ⟨bn27, bn28, bn29, bn30, xr26⟩ := hw
        try clear hw
        have or26 := hsk
        have zr26 := sk_next hsk xr26.1 xr26.2
        have hsk := zr26.1
        have mr26 := zr26.2.1
        have fr26 := zr26.2.2.1
        clear xr26 zr26
        have m9 := (fr26 (by (first | (apply Int.le_antisymm <;> omega) | omega)) (by (first | (apply Int.le_antisymm <;> omega) | omega))).2
        have dr26 := sk_is hsk
        obtain ⟨hP1, hK1, hD1⟩ := hB
        replace hP1 := va_P.he ht hP1
        obtain ⟨hP, hD⟩ := va_join (wr := [(pk, .inl (cpk, 4100, .inl j123_pk)), (pg, .inl (cpg, 4100, .inr (.inr (.inr (.inr (fun j => (j123_pg j).map (sg sa))))))), (pp, .inl (cpp, 4100, .inl j123_pp)), (pz, .inl (cpz, 4100, .inl j123_pz)), (pv, .inl (cpv, 4100, .inr (.inl j123_pv))), (h0, .inr (6, [.ref gl, .ref fu, .ref pa, .ref pf, .ref sf, .ref pk, .ref pg, .ref pp, .ref pz, .ref pv, .int h0_reason, .int h0_place, .ref sc, .int j123_h0_stepCount, .int h0_open, .int x12, .ref wg, .ref wp, .int n25])), (wg, .inl (cwg, 360, .inr (.inr (.inr (.inr (fun j => (n23 j).map (sg sa))))))), (wp, .inl (cwp, 360, .inl n24))]) (w1 := (wz_107 sc tr (sg sa n29) n28 n30 n31 ss sp szs sv sc_length n27 tr tx tr_length ss css (fun j => (gss j).map (sg sa)) sp csp gsp szs cszs gszs sv csv gsv)) hP hD [0, 1, 2, 3, 4, 5] [6, 7, 8, 9, 10, 11, 12, 13] rfl rfl (by decide) (by decide) hk1 hFc hP1 hD1
        clear hPc hDc hKc hFc hz1 hk1 hP1 hK1 hD1
        rename Heap => H
        have hP : va_P (dC, dI) cls (wz_134 pk cpk j123_pk pg cpg (fun j => (j123_pg j).map (sg sa)) pp cpp j123_pp pz cpz j123_pz pv cpv j123_pv h0 gl fu pa pf sf pk pg pp pz pv h0_reason h0_place sc j123_h0_stepCount h0_open x12 wg wp n25 wg cwg (fun j => (n23 j).map (sg sa)) wp cwp n24 sc tr (sg sa n29) n28 n30 n31 ss sp szs sv sc_length n27 tr tx tr_length ss css (fun j => (gss j).map (sg sa)) sp csp gsp szs cszs gszs sv csv gsv) H := hP
        have hD : va_D A (wz_134 pk cpk j123_pk pg cpg (fun j => (j123_pg j).map (sg sa)) pp cpp j123_pp pz cpz j123_pz pv cpv j123_pv h0 gl fu pa pf sf pk pg pp pz pv h0_reason h0_place sc j123_h0_stepCount h0_open x12 wg wp n25 wg cwg (fun j => (n23 j).map (sg sa)) wp cwp n24 sc tr (sg sa n29) n28 n30 n31 ss sp szs sv sc_length n27 tr tx tr_length ss css (fun j => (gss j).map (sg sa)) sp csp gsp szs cszs gszs sv csv gsv) := hD
        have hP9 := hP.sb (wq := (wz_121 h0 gl fu pa pf sf pk pg pp pz pv h0_reason h0_place sc j123_h0_stepCount h0_open x12 wg wp n25 sc tr (sg sa n29) n28 n30 n31 ss sp szs sv sc_length n27 tr tx tr_length ss css (fun j => (gss j).map (sg sa)) sp csp gsp szs cszs gszs sv csv gsv pk cpk j123_pk pg cpg (fun j => (j123_pg j).map (sg sa)) pp cpp j123_pp pz cpz j123_pz pv cpv j123_pv wg cwg (fun j => (n23 j).map (sg sa)) wp cwp n24)) [5, 8, 9, 10, 11, 12, 13, 0, 1, 2, 3, 4, 6, 7] rfl
        have hD9 := hD.sb (wq := (wz_121 h0 gl fu pa pf sf pk pg pp pz pv h0_reason h0_place sc j123_h0_stepCount h0_open x12 wg wp n25 sc tr (sg sa n29) n28 n30 n31 ss sp szs sv sc_length n27 tr tx tr_length ss css (fun j => (gss j).map (sg sa)) sp csp gsp szs cszs gszs sv csv gsv pk cpk j123_pk pg cpg (fun j => (j123_pg j).map (sg sa)) pp cpp j123_pp pz cpz j123_pz pv cpv j123_pv wg cwg (fun j => (n23 j).map (sg sa)) wp cwp n24)) [5, 8, 9, 10, 11, 12, 13, 0, 1, 2, 3, 4, 6, 7] (by decide) rfl
        exact tz_up (fun _ => rfl) (W.vret hx hb hr (fun t ht hW => ⟨⟨(j123_pg, j123_pk, j123_pp, j123_pv, j123_pz, n23, n24, h0_place, h0_reason, j123_h0_stepCount, x12, n25, n27, n28, n29, n30, n31), ⟨rfl, ⟨b_j123_h0_stepCount, by (try dsimp only) <;> (first | (apply Int.le_antisymm <;> omega) | omega), bn25, bn27, bn28, bn29, bn30, ⟨hsk, by (try dsimp only) <;> (first | (apply Int.le_antisymm <;> omega) | omega), py_up xr22.2.1 (by (first | (apply Int.le_antisymm <;> omega) | omega)) (by (first | (apply Int.le_antisymm <;> omega) | omega)) ⟨hlv, isk.1⟩ (by rw [← l94]; exact q97) hpy, pX_push hX xr22.2.1 (by (first | (apply Int.le_antisymm <;> omega) | omega)) (by (first | (apply Int.le_antisymm <;> omega) | omega)) (by (try dsimp only) <;> (first | (apply Int.le_antisymm <;> omega) | omega)), wk_up xr22.2.1 (by (first | (apply Int.le_antisymm <;> omega) | omega)) (by (first | (apply Int.le_antisymm <;> omega) | omega)), by (try dsimp only) <;> (first | (apply Int.le_antisymm <;> omega) | omega)⟩⟩⟩, va_P.he ht.symm hP9, va_K.moved hW.alike hK, hD9⟩, hS.F ht⟩) hS.2.2 d_PR_readTwoSides_136)
      · skip
        refine w_cut (pc2 := 114) (σ := Unit) (fun u H locs ls => match u with | _ => (sc_sign = 36 ∨ sc_sign = 37) ∧ va_P (dC, dI) cls (wz_136 sc tr (sg sa sc_sign) sc_place sc_size sc_value ss sp szs sv sc_length sc_at tr tx tr_length ss css (fun j => (gss j).map (sg sa)) sp csp gsp szs cszs gszs sv csv gsv h0 gl fu pa pf sf pk pg pp pz pv h0_reason h0_place sc n20 h0_open x12 wg wp n21 pk cpk n16 pg cpg (fun j => (n15 j).map (sg sa)) pp cpp n17 pz cpz n19 pv cpv n18 wg cwg (fun j => (gwg j).map (sg sa)) wp cwp gwp) H ∧ va_D A (wz_136 sc tr (sg sa sc_sign) sc_place sc_size sc_value ss sp szs sv sc_length sc_at tr tx tr_length ss css (fun j => (gss j).map (sg sa)) sp csp gsp szs cszs gszs sv csv gsv h0 gl fu pa pf sf pk pg pp pz pv h0_reason h0_place sc n20 h0_open x12 wg wp n21 pk cpk n16 pg cpg (fun j => (n15 j).map (sg sa)) pp cpp n17 pz cpz n19 pv cpv n18 wg cwg (fun j => (gwg j).map (sg sa)) wp cwp gwp) ∧ va_S A s.heap H locs ∧ lv_has ls 4 [(0, .ref h0), (2, .ref (sg sa sc_sign)), (3, .int sc_place)]) (fun u => match u with | _ => []) ?_ (fun jn114 => ?_)
        · intro u H locs ls hI
          obtain ⟨y114, hP, hD, hS, hl⟩ := hI
          refine lv_aload_n hx hb d_PR_readTwoSides_114 rfl (lv_at hl 0 rfl) ?_
          refine lv_iconst (v := 2) hx hb d_PR_readTwoSides_115 (by decide) ?_
          refine lv_aload_n hx hb d_PR_readTwoSides_116 rfl (lv_at hl 1 rfl) ?_
          refine lv_iload_n hx hb d_PR_readTwoSides_117 rfl (lv_at hl 2 rfl) ?_
          refine lv_iconst (v := 0) hx hb d_PR_readTwoSides_118 (by decide) ?_
          refine lv_lconst (v := 0) hx hb d_PR_readTwoSides_119 (by decide) ?_
          have kl0 : (0 : Int64).toInt = 0 := by decide
          have hPc := hP.sb (wq := (wz_114 h0 gl fu pa pf sf pk pg pp pz pv h0_reason h0_place sc n20 h0_open x12 wg wp n21 pk cpk n16 pg cpg (fun j => (n15 j).map (sg sa)) pp cpp n17 pz cpz n19 pv cpv n18)) [6, 7, 8, 9, 10, 11] rfl
          have hDc := hD.sb (wq := (wz_114 h0 gl fu pa pf sf pk pg pp pz pv h0_reason h0_place sc n20 h0_open x12 wg wp n21 pk cpk n16 pg cpg (fun j => (n15 j).map (sg sa)) pp cpp n17 pz cpz n19 pv cpv n18)) [6, 7, 8, 9, 10, 11] (by decide) rfl
          have hKc := hK.sb (tyq := [(cpk, .int), (cpg, .object "WaferForge$Sign"), (cpp, .int), (cpz, .int), (cpv, .long)]) [4, 5, 6, 7, 8] rfl
          have hFc := va_free (wc := (wz_114 h0 gl fu pa pf sf pk pg pp pz pv h0_reason h0_place sc n20 h0_open x12 wg wp n21 pk cpk n16 pg cpg (fun j => (n15 j).map (sg sa)) pp cpp n17 pz cpz n19 pv cpv n18)) hD hS hA [6, 7, 8, 9, 10, 11] rfl
          refine va_callv (va_runV (As := [.int 2, .ref (sg sa sc_sign), .int sc_place, .int 0, .long 0]) (rest := []) ⟨hx, hb, hml, hown, hts⟩ (c_PR_add l dC dI H.size sa h0 gl fu pa pf sf pk pg pp pz pv sc wg wp cpk cpg cpp cpz cpv h0_reason h0_place n20 h0_open x12 n21 n16 n15 n17 n19 n18 (bn20) 2 sc_sign sc_place 0 0 (b_sc_sign) (by (try dsimp only) <;> (first | (apply Int.le_antisymm <;> omega) | omega))) (cwV 5 hts (gV kM_PR_187 kV_PR_add kS_PR_add kI_PR kC_PR_add) rfl rfl rfl (by decide +kernel) ⟨Nat.le_of_ble_eq_true rfl, Nat.le_of_ble_eq_true rfl⟩) ⟨fun a U g mk z => by obtain ⟨z0, z1, zP, zK, zD, zS⟩ := z; exact ⟨z0, z1, zP, va_K.moved (u := U) (U := U.calling g mk a) (Vm.Alike.refl U.vm) zK, zD, sw.same (u := U) (U := U.calling g mk a) rfl zS⟩, va_recv hKc hPc (ci := 6) (q0 := 0) rfl rfl, fun U hU hW => ⟨rfl, by rw [hU], va_P.he hU.symm hPc, va_K.moved hW.alike hKc, hDc.weaken (fun _ _ _ _ => trivial), hSW.call hS hFc hW hU⟩⟩ rfl rfl hl.1 rfl (lv_room (Nat.le_of_ble_eq_true rfl)) d_PR_readTwoSides_120 ⟨(Nat.zero_le _), (Nat.zero_le _)⟩) hS (fun q _ h => hFc q h) hFc (fun u t H1 locs ht hvm hw hB hz1 hk1 hS => ?_)
          obtain ⟨n33, n34, n35, n36, n37, n38⟩ := u
          try dsimp only at hw
          obtain ⟨bn38, xr32⟩ := hw
          try clear hw
          have sr32 := xr32.1
          have Lr32 := xr32.2
          clear xr32
          obtain ⟨hP1, hK1, hD1⟩ := hB
          replace hP1 := va_P.he ht hP1
          obtain ⟨hP, hD⟩ := va_join (wr := (wz_130 sc tr (sg sa sc_sign) sc_place sc_size sc_value ss sp szs sv sc_length sc_at tr tx tr_length ss css (fun j => (gss j).map (sg sa)) sp csp gsp szs cszs gszs sv csv gsv wg cwg (fun j => (gwg j).map (sg sa)) wp cwp gwp)) (w1 := (wz_114 h0 gl fu pa pf sf pk pg pp pz pv h0_reason h0_place sc n38 h0_open x12 wg wp n21 pk cpk n34 pg cpg (fun j => (n33 j).map (sg sa)) pp cpp n35 pz cpz n37 pv cpv n36)) hP hD [6, 7, 8, 9, 10, 11] [0, 1, 2, 3, 4, 5, 12, 13] rfl rfl (by decide) (by decide) hk1 hFc hP1 hD1
          clear hPc hDc hKc hFc hz1 hk1 hP1 hK1 hD1
          rename Heap => H
          have hP : va_P (dC, dI) cls (wz_131 sc tr (sg sa sc_sign) sc_place sc_size sc_value ss sp szs sv sc_length sc_at tr tx tr_length ss css (fun j => (gss j).map (sg sa)) sp csp gsp szs cszs gszs sv csv gsv wg cwg (fun j => (gwg j).map (sg sa)) wp cwp gwp h0 gl fu pa pf sf pk pg pp pz pv h0_reason h0_place sc n38 h0_open x12 wg wp n21 pk cpk n34 pg cpg (fun j => (n33 j).map (sg sa)) pp cpp n35 pz cpz n37 pv cpv n36) H := hP
          have hD : va_D A (wz_131 sc tr (sg sa sc_sign) sc_place sc_size sc_value ss sp szs sv sc_length sc_at tr tx tr_length ss css (fun j => (gss j).map (sg sa)) sp csp gsp szs cszs gszs sv csv gsv wg cwg (fun j => (gwg j).map (sg sa)) wp cwp gwp h0 gl fu pa pf sf pk pg pp pz pv h0_reason h0_place sc n38 h0_open x12 wg wp n21 pk cpk n34 pg cpg (fun j => (n33 j).map (sg sa)) pp cpp n35 pz cpz n37 pv cpv n36) := hD
          exact jn123 (n33, n34, n35, n36, n37, n38) _ _ _ ⟨bn38, pX_half hX Lr32 y114 (fun S q => lm_pw q hpy (by (first | (apply Int.le_antisymm <;> omega) | omega))), hP.sub [0, 1, 2, 3, 4, 5, 8, 9, 10, 11, 12, 13, 6, 7] rfl, hD.sub [0, 1, 2, 3, 4, 5, 8, 9, 10, 11, 12, 13, 6, 7] (by decide) rfl, hS, lv_sub hl [0, 1, 2] rfl⟩
        · skip
          refine lv_acmp_eq (rx := some (sg sa sc_sign)) (ry := some (sg sa 36)) (tgt := 114) hx hb d_PR_readTwoSides_104 (by decide) (fun c104 => ?_) (fun c104 => ?_)
          · have q104 : sc_sign = 36 := hSW.2.2.2.1.2 sc_sign 36 b_sc_sign (by decide : 36 < 55) (Option.some.inj c104)
            exact jn114 () _ _ _ ⟨by (try dsimp only) <;> (first | (apply Int.le_antisymm <;> omega) | omega), hP, hD, hS, lv_sub hl [0, 2, 3] rfl⟩
          · have q104 : sc_sign ≠ 36 := fun z => c104 (by rw [z])
            refine lv_aload_n hx hb d_PR_readTwoSides_107 rfl (lv_at hl 2 rfl) ?_
            refine va_gets (C := "WaferForge$Sign") (n := "AND") (d := "LWaferForge$Sign;") (v := .ref (sg sa 37)) hx hb ((hSW.2.2.2.1.1 37 (by decide)).1) hS hown (hts _ kF_PR_254) (fun _ h9 => h9) d_PR_readTwoSides_108 ?_
            refine lv_acmp_ne (rx := some (sg sa sc_sign)) (ry := some (sg sa 37)) (tgt := 123) hx hb d_PR_readTwoSides_111 (by decide) (fun c111 => ?_) (fun c111 => ?_)
            · have q111 : sc_sign ≠ 37 := fun z => c111 (by rw [z])
              exact jn123 (n15, n16, n17, n18, n19, n20) _ _ _ ⟨bn20, (by have z9 := itm_0 q104 q111; exact pX_mono (pX_eq hX (fun S => by rw [z9.1])) (Int.le_refl _) (by rw [z9.2]; (first | (apply Int.le_antisymm <;> omega) | omega))), hP, hD, hS, lv_sub hl [0, 2, 3] rfl⟩
            · have q111 : sc_sign = 37 := hSW.2.2.2.1.2 sc_sign 37 b_sc_sign (by decide : 37 < 55) (Option.some.inj c111)
              exact jn114 () _ _ _ ⟨by (try dsimp only) <;> (first | (apply Int.le_antisymm <;> omega) | omega), hP, hD, hS, lv_sub hl [0, 2, 3] rfl⟩
    · have q74 := nltI c74
      refine lv_aload_n hx hb d_PR_readTwoSides_77 rfl (lv_at hl 0 rfl) ?_
      have hPc := hP.sb (wq := (wz_111 h0 gl fu pa pf sf pk pg pp pz pv h0_reason h0_place sc n9 h0_open h0_twoSides wg wp n10 sc tr (sg sa sc_sign) sc_place sc_size sc_value ss sp szs sv sc_length sc_at)) [6, 0] rfl
      have hDc := hD.sb (wq := (wz_111 h0 gl fu pa pf sf pk pg pp pz pv h0_reason h0_place sc n9 h0_open h0_twoSides wg wp n10 sc tr (sg sa sc_sign) sc_place sc_size sc_value ss sp szs sv sc_length sc_at)) [6, 0] (by decide) rfl
      have hKc := hK.sb (tyq := []) [] rfl
      have hFc := va_free (wc := (wz_111 h0 gl fu pa pf sf pk pg pp pz pv h0_reason h0_place sc n9 h0_open h0_twoSides wg wp n10 sc tr (sg sa sc_sign) sc_place sc_size sc_value ss sp szs sv sc_length sc_at)) hD hS hA [6, 0] rfl
      refine tq_callv (tz_runV (As := []) (rest := []) ⟨hx, hb, hml, hown, hts⟩ (c_PR_refuseOneMore l hlt dC dI H.size sa h0 gl fu pa pf sf pk pg pp pz pv sc wg wp tr ss sp szs sv h0_reason h0_place n9 h0_open h0_twoSides n10 sc_sign sc_place sc_size sc_value sc_length sc_at (b_sc_sign) (b_sc_place)) (cwV 0 hts (gV kM_PR_117 kV_PR_refuseOneMore kS_PR_refuseOneMore kI_PR kC_PR_refuseOneMore) rfl rfl rfl (by decide +kernel) ⟨Nat.le_of_ble_eq_true rfl, Nat.le_of_ble_eq_true rfl⟩) ⟨fun a U g mk z => by obtain ⟨z0, z1, zP, zK, zD, zS⟩ := z; exact ⟨z0, z1, zP, va_K.moved (u := U) (U := U.calling g mk a) (Vm.Alike.refl U.vm) zK, zD, sw.same (u := U) (U := U.calling g mk a) rfl zS⟩, va_recv hKc hPc (ci := 6) (q0 := 0) rfl rfl, fun U hU hW => ⟨rfl, by rw [hU], va_P.he hU.symm hPc, va_K.moved hW.alike hKc, hDc.weaken (fun _ _ _ _ => trivial), hSW.call hS hFc hW hU⟩⟩ rfl rfl hl.1 rfl (lv_room (Nat.le_of_ble_eq_true rfl)) d_PR_readTwoSides_78 ⟨Nat.le_of_ble_eq_true rfl, Nat.le_of_ble_eq_true rfl⟩) hS (fun q _ h => hFc q h) hFc (fun u t H1 locs ht hvm hw hB hz1 hk1 hS => ?_) (fun xx u t H1 locs ht hvm hw hXX hB hz1 hk1 hS => ?_)
      rotate_left
      · skip
        obtain ⟨n40, n41⟩ := u
        try dsimp only at hw
        obtain ⟨hP1, hK1, hD1⟩ := hB
        replace hP1 := va_P.he ht hP1
        obtain ⟨hP, hD⟩ := va_join (wr := (wz_124 tr tx tr_length ss css (fun j => (gss j).map (sg sa)) sp csp gsp szs cszs gszs sv csv gsv pk cpk n5 pg cpg (fun j => (n4 j).map (sg sa)) pp cpp n6 pz cpz n8 pv cpv n7 wg cwg (fun j => (gwg j).map (sg sa)) wp cwp gwp)) (w1 := (wz_111 h0 gl fu pa pf sf pk pg pp pz pv n41 n40 sc n9 h0_open h0_twoSides wg wp n10 sc tr (sg sa sc_sign) sc_place sc_size sc_value ss sp szs sv sc_length sc_at)) hP hD [6, 0] [1, 2, 3, 4, 5, 7, 8, 9, 10, 11, 12, 13] rfl rfl (by decide) (by decide) hk1 hFc hP1 hD1
        have hP : va_P (dC, dI) cls (wz_125 tr tx tr_length ss css (fun j => (gss j).map (sg sa)) sp csp gsp szs cszs gszs sv csv gsv pk cpk n5 pg cpg (fun j => (n4 j).map (sg sa)) pp cpp n6 pz cpz n8 pv cpv n7 wg cwg (fun j => (gwg j).map (sg sa)) wp cwp gwp h0 gl fu pa pf sf pk pg pp pz pv n41 n40 sc n9 h0_open h0_twoSides wg wp n10 sc tr (sg sa sc_sign) sc_place sc_size sc_value ss sp szs sv sc_length sc_at) H1 := hP
        have hD : va_D A (wz_125 tr tx tr_length ss css (fun j => (gss j).map (sg sa)) sp csp gsp szs cszs gszs sv csv gsv pk cpk n5 pg cpg (fun j => (n4 j).map (sg sa)) pp cpp n6 pz cpz n8 pv cpv n7 wg cwg (fun j => (gwg j).map (sg sa)) wp cwp gwp h0 gl fu pa pf sf pk pg pp pz pv n41 n40 sc n9 h0_open h0_twoSides wg wp n10 sc tr (sg sa sc_sign) sc_place sc_size sc_value ss sp szs sv sc_length sc_at) := hD
        have hP9 := hP.sb (wq := (wz_121 h0 gl fu pa pf sf pk pg pp pz pv n41 n40 sc n9 h0_open h0_twoSides wg wp n10 sc tr (sg sa sc_sign) sc_place sc_size sc_value ss sp szs sv sc_length sc_at tr tx tr_length ss css (fun j => (gss j).map (sg sa)) sp csp gsp szs cszs gszs sv csv gsv pk cpk n5 pg cpg (fun j => (n4 j).map (sg sa)) pp cpp n6 pz cpz n8 pv cpv n7 wg cwg (fun j => (gwg j).map (sg sa)) wp cwp gwp)) [12, 13, 0, 1, 2, 3, 4, 5, 6, 7, 8, 9, 10, 11] rfl
        have hD9 := hD.sb (wq := (wz_121 h0 gl fu pa pf sf pk pg pp pz pv n41 n40 sc n9 h0_open h0_twoSides wg wp n10 sc tr (sg sa sc_sign) sc_place sc_size sc_value ss sp szs sv sc_length sc_at tr tx tr_length ss css (fun j => (gss j).map (sg sa)) sp csp gsp szs cszs gszs sv csv gsv pk cpk n5 pg cpg (fun j => (n4 j).map (sg sa)) pp cpp n6 pz cpz n8 pv cpv n7 wg cwg (fun j => (gwg j).map (sg sa)) wp cwp gwp)) [12, 13, 0, 1, 2, 3, 4, 5, 6, 7, 8, 9, 10, 11] (by decide) rfl
        exact tz_leave rfl hno hlocks (fun t ht hW => ⟨⟨(n4, n5, n6, n7, n8, gwg, gwp, n40, n41, n9, h0_twoSides, n10, sc_at, sc_place, sc_sign, sc_size, sc_value), ⟨⟨bn9, b_h0_twoSides, bn10, b_sc_at, b_sc_place, b_sc_sign, b_sc_size⟩, by rw [ht]; exact hXX.moved hW.alike⟩, va_P.he ht.symm hP9, va_K.moved hW.alike hK, hD9⟩, hS.F ht⟩) hS.2.2
      exact (show False from hw).elim
  · skip
    refine lv_icmp_ne (tgt := 67) hx hb d_PR_readTwoSides_32 (by decide) (fun c32 => ?_) (fun c32 => ?_)
    · have q32 := neI c32
      exact jn67 () _ _ _ ⟨hP, hD, hS, lv_sub hl [2, 3, 1, 0] rfl⟩
    · have q32 := eqI c32
      refine lv_aload_n hx hb d_PR_readTwoSides_35 rfl (lv_at hl 2 rfl) ?_
      refine va_get (D := (dC, dI)) (ci := 6) (v := .int n10) (C := R_PR) (T := F_PR) (N := 19) hx hb hts i_PR hown hK hP 6 rfl rfl 18 (by decide) (hts _ kF_PR_87) (fun _ h9 => h9) rfl d_PR_readTwoSides_36 ?_
      refine lv_iload_n hx hb d_PR_readTwoSides_39 rfl (lv_at hl 3 rfl) ?_
      refine lv_icmp_le (tgt := 67) hx hb d_PR_readTwoSides_40 (by decide) (fun c40 => ?_) (fun c40 => ?_)
      · have q40 := leI c40
        exact jn67 () _ _ _ ⟨hP, hD, hS, lv_sub hl [2, 3, 1, 0] rfl⟩
      · have q40 := nleI c40
        refine lv_aload_n hx hb d_PR_readTwoSides_43 rfl (lv_at hl 2 rfl) ?_
        refine va_get (D := (dC, dI)) (ci := 6) (v := .ref wg) (C := R_PR) (T := F_PR) (N := 19) hx hb hts i_PR hown hK hP 6 rfl rfl 16 (by decide) (hts _ kF_PR_37) (fun _ h9 => h9) rfl d_PR_readTwoSides_44 ?_
        refine lv_aload_n hx hb d_PR_readTwoSides_47 rfl (lv_at hl 2 rfl) ?_
        refine va_get (D := (dC, dI)) (ci := 6) (v := .int n10) (C := R_PR) (T := F_PR) (N := 19) hx hb hts i_PR hown hK hP 6 rfl rfl 18 (by decide) (hts _ kF_PR_87) (fun _ h9 => h9) rfl d_PR_readTwoSides_48 ?_
        refine lv_iconst (v := 1) hx hb d_PR_readTwoSides_51 (by decide) ?_
        refine lv_isub hx hb d_PR_readTwoSides_52 ?_
        refine lv_topi (fun x42 ex42 => ?_)
        have tx42 : x42.toInt = n10.toInt - 1 := by have z := i32_sub ex42 (by (first | (apply Int.le_antisymm <;> omega) | omega)) (by (first | (apply Int.le_antisymm <;> omega) | omega)); first | exact z | (first | (apply Int.le_antisymm <;> omega) | omega)
        have g53 : vp_in x42 360 := vp_in_iff.mpr ⟨by (first | (apply Int.le_antisymm <;> omega) | omega), by (first | (apply Int.le_antisymm <;> omega) | omega)⟩
        obtain ⟨k43, hk43, ek43⟩ : ∃ z : Nat, z < 55 ∧ gwg x42.toNatClampNeg = some z := by obtain ⟨k9, h9, h8, h7, -⟩ := hpy (x42.toInt - p0.toInt).toNat (by (first | (apply Int.le_antisymm <;> omega) | omega)); exact ⟨k9, h7, by rw [show x42.toNatClampNeg = p0.toInt.toNat + (x42.toInt - p0.toInt).toNat from by have := i32_clamp (x := x42) (by (first | (apply Int.le_antisymm <;> omega) | omega)); (first | (apply Int.le_antisymm <;> omega) | omega)]; exact h9⟩
        refine va_aldq hx hb hK hP 12 9 rfl rfl g53 d_PR_readTwoSides_53 ?_
        refine w_top (v2 := .ref (sg sa k43)) (by show va_rf ((gwg x42.toNatClampNeg).map (sg sa)) = _; rw [ek43]; rfl) ?_
        refine va_getE (i := k43) (q := ("WaferForge$Sign", "level", "I", sg_level)) hx hb hSW.2.2.2.1 hk43 hS hown (List.mem_of_getElem? (i := 1) rfl) (hts _ kF_PR_241) (fun _ h9 => h9) d_PR_readTwoSides_54 ?_
        refine lv_topi (fun x44 ex44 => ?_)
        have ex44 : x44 = sg_level.getD k43 0 := ex44
        refine lv_iconst (v := 3) hx hb d_PR_readTwoSides_57 (by decide) ?_
        refine lv_icmp_ne (tgt := 67) hx hb d_PR_readTwoSides_58 (by decide) (fun c58 => ?_) (fun c58 => ?_)
        · have q58 := neI c58
          exact jn67 () _ _ _ ⟨hP, hD, hS, lv_sub hl [2, 3, 1, 0] rfl⟩
        · have q58 := eqI c58
          refine lv_aload_n hx hb d_PR_readTwoSides_61 rfl (lv_at hl 2 rfl) ?_
          refine lv_iconst (v := 1) hx hb d_PR_readTwoSides_62 (by decide) ?_
          refine lv_iload_n hx hb d_PR_readTwoSides_63 rfl (lv_at hl 0 rfl) ?_
          have hPc := hP.sb (wq := (wz_110 h0 gl fu pa pf sf pk pg pp pz pv h0_reason h0_place sc n9 h0_open h0_twoSides wg wp n10)) [6] rfl
          have hDc := hD.sb (wq := (wz_110 h0 gl fu pa pf sf pk pg pp pz pv h0_reason h0_place sc n9 h0_open h0_twoSides wg wp n10)) [6] (by decide) rfl
          have hKc := hK.sb (tyq := []) [] rfl
          have hFc := va_free (wc := (wz_110 h0 gl fu pa pf sf pk pg pp pz pv h0_reason h0_place sc n9 h0_open h0_twoSides wg wp n10)) hD hS hA [6] rfl
          refine tq_callv (tz_runV (As := [.int 1, .int sc_place]) (rest := []) ⟨hx, hb, hml, hown, hts⟩ (c_PR_refuse l hlt dC dI H.size sa h0 gl fu pa pf sf pk pg pp pz pv sc wg wp h0_reason h0_place n9 h0_open h0_twoSides n10 1 sc_place) (cwV 2 hts (gV kM_PR_110 kV_PR_refuse kS_PR_refuse kI_PR kC_PR_refuse) rfl rfl rfl (by decide +kernel) ⟨Nat.le_of_ble_eq_true rfl, Nat.le_of_ble_eq_true rfl⟩) ⟨fun a U g mk z => by obtain ⟨z0, z1, zP, zK, zD, zS⟩ := z; exact ⟨z0, z1, zP, va_K.moved (u := U) (U := U.calling g mk a) (Vm.Alike.refl U.vm) zK, zD, sw.same (u := U) (U := U.calling g mk a) rfl zS⟩, va_recv hKc hPc (ci := 6) (q0 := 0) rfl rfl, fun U hU hW => ⟨rfl, by rw [hU], va_P.he hU.symm hPc, va_K.moved hW.alike hKc, hDc.weaken (fun _ _ _ _ => trivial), hSW.call hS hFc hW hU⟩⟩ rfl rfl hl.1 rfl (lv_room (Nat.le_of_ble_eq_true rfl)) d_PR_readTwoSides_64 ⟨Nat.le_of_ble_eq_true rfl, Nat.le_of_ble_eq_true rfl⟩) hS (fun q _ h => hFc q h) hFc (fun u t H1 locs ht hvm hw hB hz1 hk1 hS => ?_) (fun xx u t H1 locs ht hvm hw hXX hB hz1 hk1 hS => ?_)
          rotate_left
          · skip
            obtain ⟨n46, n47⟩ := u
            try dsimp only at hw
            obtain ⟨hP1, hK1, hD1⟩ := hB
            replace hP1 := va_P.he ht hP1
            obtain ⟨hP, hD⟩ := va_join (wr := [(sc, .inr (8, [.ref tr, .ref (sg sa sc_sign), .int sc_place, .int sc_size, .long sc_value, .ref ss, .ref sp, .ref szs, .ref sv, .int sc_length, .int sc_at])), (tr, .inr (1, [.ref tx, .int tr_length])), (ss, .inl (css, 2001, .inr (.inr (.inr (.inr (fun j => (gss j).map (sg sa))))))), (sp, .inl (csp, 2001, .inl gsp)), (szs, .inl (cszs, 2001, .inl gszs)), (sv, .inl (csv, 2001, .inr (.inl gsv))), (pk, .inl (cpk, 4100, .inl n5)), (pg, .inl (cpg, 4100, .inr (.inr (.inr (.inr (fun j => (n4 j).map (sg sa))))))), (pp, .inl (cpp, 4100, .inl n6)), (pz, .inl (cpz, 4100, .inl n8)), (pv, .inl (cpv, 4100, .inr (.inl n7))), (wg, .inl (cwg, 360, .inr (.inr (.inr (.inr (fun j => (gwg j).map (sg sa))))))), (wp, .inl (cwp, 360, .inl gwp))]) (w1 := (wz_110 h0 gl fu pa pf sf pk pg pp pz pv n47 n46 sc n9 h0_open h0_twoSides wg wp n10)) hP hD [6] [0, 1, 2, 3, 4, 5, 7, 8, 9, 10, 11, 12, 13] rfl rfl (by decide) (by decide) hk1 hFc hP1 hD1
            have hP : va_P (dC, dI) cls (wz_137 sc tr (sg sa sc_sign) sc_place sc_size sc_value ss sp szs sv sc_length sc_at tr tx tr_length ss css (fun j => (gss j).map (sg sa)) sp csp gsp szs cszs gszs sv csv gsv pk cpk n5 pg cpg (fun j => (n4 j).map (sg sa)) pp cpp n6 pz cpz n8 pv cpv n7 wg cwg (fun j => (gwg j).map (sg sa)) wp cwp gwp h0 gl fu pa pf sf pk pg pp pz pv n47 n46 sc n9 h0_open h0_twoSides wg wp n10) H1 := hP
            have hD : va_D A (wz_137 sc tr (sg sa sc_sign) sc_place sc_size sc_value ss sp szs sv sc_length sc_at tr tx tr_length ss css (fun j => (gss j).map (sg sa)) sp csp gsp szs cszs gszs sv csv gsv pk cpk n5 pg cpg (fun j => (n4 j).map (sg sa)) pp cpp n6 pz cpz n8 pv cpv n7 wg cwg (fun j => (gwg j).map (sg sa)) wp cwp gwp h0 gl fu pa pf sf pk pg pp pz pv n47 n46 sc n9 h0_open h0_twoSides wg wp n10) := hD
            have hP9 := hP.sb (wq := (wz_121 h0 gl fu pa pf sf pk pg pp pz pv n47 n46 sc n9 h0_open h0_twoSides wg wp n10 sc tr (sg sa sc_sign) sc_place sc_size sc_value ss sp szs sv sc_length sc_at tr tx tr_length ss css (fun j => (gss j).map (sg sa)) sp csp gsp szs cszs gszs sv csv gsv pk cpk n5 pg cpg (fun j => (n4 j).map (sg sa)) pp cpp n6 pz cpz n8 pv cpv n7 wg cwg (fun j => (gwg j).map (sg sa)) wp cwp gwp)) [13, 0, 1, 2, 3, 4, 5, 6, 7, 8, 9, 10, 11, 12] rfl
            have hD9 := hD.sb (wq := (wz_121 h0 gl fu pa pf sf pk pg pp pz pv n47 n46 sc n9 h0_open h0_twoSides wg wp n10 sc tr (sg sa sc_sign) sc_place sc_size sc_value ss sp szs sv sc_length sc_at tr tx tr_length ss css (fun j => (gss j).map (sg sa)) sp csp gsp szs cszs gszs sv csv gsv pk cpk n5 pg cpg (fun j => (n4 j).map (sg sa)) pp cpp n6 pz cpz n8 pv cpv n7 wg cwg (fun j => (gwg j).map (sg sa)) wp cwp gwp)) [13, 0, 1, 2, 3, 4, 5, 6, 7, 8, 9, 10, 11, 12] (by decide) rfl
            exact tz_leave rfl hno hlocks (fun t ht hW => ⟨⟨(n4, n5, n6, n7, n8, gwg, gwp, n46, n47, n9, h0_twoSides, n10, sc_at, sc_place, sc_sign, sc_size, sc_value), ⟨⟨bn9, b_h0_twoSides, bn10, b_sc_at, b_sc_place, b_sc_sign, b_sc_size⟩, by rw [ht]; exact hXX.moved hW.alike⟩, va_P.he ht.symm hP9, va_K.moved hW.alike hK, hD9⟩, hS.F ht⟩) hS.2.2
          exact (show False from hw).elim
end q_50
section q_51
/-! Program: an X -/
set_option maxHeartbeats 4000000 in
set_option maxRecDepth 100000 in
theorem c_PR_readX (l : Launch) (hlt : l.stackTraces = false) (dC : Nat → ClassId) (dI : Nat → Nat → Nat) (sz : Nat) (sa : Nat → Nat) (h0 gl fu pa pf sf pk pg pp pz pv sc wg wp tr ss sp szs sv tx : Nat) (css csp cszs csv cpk cpg cpp cpz cpv cwg cwp : ClassId) (h0_reason : Int32) (h0_place : Int32) (h0_stepCount : Int32) (h0_open : Int32) (h0_twoSides : Int32) (h0_waitingCount : Int32) (sc_sign : Nat) (sc_place : Int32) (sc_size : Int32) (sc_value : Int64) (sc_length : Int32) (sc_at : Int32) (tr_length : Int32) (gss : Nat → Option Nat) (gsp : Nat → Int32) (gszs : Nat → Int32) (gsv : Nat → Int64) (gpk : Nat → Int32) (gpg : Nat → Option Nat) (gpp : Nat → Int32) (gpz : Nat → Int32) (gpv : Nat → Int64) (gwg : Nat → Option Nat) (gwp : Nat → Int32) (dep : Nat) (hK_readX : k_PR_readX l dep)  (b_h0_stepCount : 0 ≤ h0_stepCount.toInt ∧ h0_stepCount.toInt ≤ 4100) (b_h0_open : 0 ≤ h0_open.toInt ∧ h0_open.toInt ≤ 40) (b_h0_twoSides : 0 ≤ h0_twoSides.toInt ∧ h0_twoSides.toInt ≤ 400) (b_h0_waitingCount : 0 ≤ h0_waitingCount.toInt ∧ h0_waitingCount.toInt ≤ 360) (b_sc_sign : sc_sign < 55) (b_sc_place : 0 ≤ sc_place.toInt ∧ sc_place.toInt ≤ 2000) (b_sc_size : 0 ≤ sc_size.toInt ∧ sc_size.toInt ≤ 2000) (b_sc_length : 0 ≤ sc_length.toInt ∧ sc_length.toInt ≤ 2001) (b_sc_at : -1 ≤ sc_at.toInt ∧ sc_at.toInt ≤ 2000) (b_tr_length : 0 ≤ tr_length.toInt ∧ tr_length.toInt ≤ 2000)   (hsk : sk tr_length.toInt sc_length.toInt sc_at.toInt sc_sign sc_place sc_size sc_value gss gsp gszs gsv) (hst : 10 * h0_stepCount.toInt ≤ 20 * sc_place.toInt) (hdp : 40 - h0_open.toInt < ((dep + 1 : Nat) : Int)) (hwc : h0_waitingCount.toInt ≤ 8 * h0_open.toInt) : tz_Met l y_PR_readX w_PR_readX ({ frames := 5 * (dep + 1) + 15, cells := 1, slots := 6, locals := 120 * (dep + 1) + 300 }) (va_Pc [.ref h0] (fun U => U.heap.size = sz ∧ va_P (dC, dI) cls (wz_121 h0 gl fu pa pf sf pk pg pp pz pv h0_reason h0_place sc h0_stepCount h0_open h0_twoSides wg wp h0_waitingCount sc tr (sg sa sc_sign) sc_place sc_size sc_value ss sp szs sv sc_length sc_at tr tx tr_length ss css (fun j => (gss j).map (sg sa)) sp csp gsp szs cszs gszs sv csv gsv pk cpk gpk pg cpg (fun j => (gpg j).map (sg sa)) pp cpp gpp pz cpz gpz pv cpv gpv wg cwg (fun j => (gwg j).map (sg sa)) wp cwp gwp) U.heap ∧ va_K (dC, dI) cls [(css, .object "WaferForge$Sign"), (csp, .int), (cszs, .int), (csv, .long), (cpk, .int), (cpg, .object "WaferForge$Sign"), (cpp, .int), (cpz, .int), (cpv, .long), (cwg, .object "WaferForge$Sign"), (cwp, .int)] U ∧ va_D (fun _ => True) (wz_121 h0 gl fu pa pf sf pk pg pp pz pv h0_reason h0_place sc h0_stepCount h0_open h0_twoSides wg wp h0_waitingCount sc tr (sg sa sc_sign) sc_place sc_size sc_value ss sp szs sv sc_length sc_at tr tx tr_length ss css (fun j => (gss j).map (sg sa)) sp csp gsp szs cszs gszs sv csv gsv pk cpk gpk pg cpg (fun j => (gpg j).map (sg sa)) pp cpp gpp pz cpz gpz pv cpv gpv wg cwg (fun j => (gwg j).map (sg sa)) wp cwp gwp) ∧ sw sa (va_A (wz_121 h0 gl fu pa pf sf pk pg pp pz pv h0_reason h0_place sc h0_stepCount h0_open h0_twoSides wg wp h0_waitingCount sc tr (sg sa sc_sign) sc_place sc_size sc_value ss sp szs sv sc_length sc_at tr tx tr_length ss css (fun j => (gss j).map (sg sa)) sp csp gsp szs cszs gszs sv csv gsv pk cpk gpk pg cpg (fun j => (gpg j).map (sg sa)) pp cpp gpp pz cpz gpz pv cpv gpv wg cwg (fun j => (gwg j).map (sg sa)) wp cwp gwp) sz) U U.heap)) (tq_Q (tq_v (fun (u : (Nat → Option Nat) × (Nat → Int32) × (Nat → Int32) × (Nat → Int64) × (Nat → Int32) × (Nat → Option Nat) × (Nat → Int32) × Int32 × Int32 × Int32 × Int32 × Int32 × Int32 × Int32 × Int32 × Nat × Int32 × Int64) => match u with | (gpg2, gpk2, gpp2, gpv2, gpz2, gwg2, gwp2, h0_open2, h0_place2, h0_reason2, h0_stepCount2, h0_twoSides2, h0_waitingCount2, sc_at2, sc_place2, sc_sign2, sc_size2, sc_value2) => (0 ≤ h0_open2.toInt ∧ h0_open2.toInt ≤ 40) ∧ (0 ≤ h0_stepCount2.toInt ∧ h0_stepCount2.toInt ≤ 4100) ∧ (0 ≤ h0_twoSides2.toInt ∧ h0_twoSides2.toInt ≤ 400) ∧ (0 ≤ h0_waitingCount2.toInt ∧ h0_waitingCount2.toInt ≤ 360) ∧ (-1 ≤ sc_at2.toInt ∧ sc_at2.toInt ≤ 2000) ∧ (0 ≤ sc_place2.toInt ∧ sc_place2.toInt ≤ 2000) ∧ (sc_sign2 < 55) ∧ (0 ≤ sc_size2.toInt ∧ sc_size2.toInt ≤ 2000) ∧ (sk tr_length.toInt sc_length.toInt sc_at2.toInt sc_sign2 sc_place2 sc_size2 sc_value2 gss gsp gszs gsv ∧ pX (16 * h0_open.toInt + 1) (fun S => 0 :: S) (sl gpk gpg gpp gpz gpv h0_stepCount.toInt) (sl gpk2 gpg2 gpp2 gpz2 gpv2 h0_stepCount2.toInt) (20 * sc_place2.toInt - 20 * sc_place.toInt - 10) ∧ h0_open2.toInt = h0_open.toInt ∧ h0_waitingCount2.toInt = h0_waitingCount.toInt ∧ wk h0_waitingCount.toInt gwg gwg2 ∧ sc_place.toInt ≤ sc_place2.toInt)) "java/lang/UnsupportedOperationException" (fun (u : (Nat → Option Nat) × (Nat → Int32) × (Nat → Int32) × (Nat → Int64) × (Nat → Int32) × (Nat → Option Nat) × (Nat → Int32) × Int32 × Int32 × Int32 × Int32 × Int32 × Int32 × Int32 × Int32 × Nat × Int32 × Int64) => match u with | (gpg2, gpk2, gpp2, gpv2, gpz2, gwg2, gwp2, h0_open2, h0_place2, h0_reason2, h0_stepCount2, h0_twoSides2, h0_waitingCount2, sc_at2, sc_place2, sc_sign2, sc_size2, sc_value2) => (0 ≤ h0_open2.toInt ∧ h0_open2.toInt ≤ 40) ∧ (0 ≤ h0_stepCount2.toInt ∧ h0_stepCount2.toInt ≤ 4100) ∧ (0 ≤ h0_twoSides2.toInt ∧ h0_twoSides2.toInt ≤ 400) ∧ (0 ≤ h0_waitingCount2.toInt ∧ h0_waitingCount2.toInt ≤ 360) ∧ (-1 ≤ sc_at2.toInt ∧ sc_at2.toInt ≤ 2000) ∧ (0 ≤ sc_place2.toInt ∧ sc_place2.toInt ≤ 2000) ∧ (sc_sign2 < 55) ∧ (0 ≤ sc_size2.toInt ∧ sc_size2.toInt ≤ 2000))) (at_PR_readX dC dI sa h0 gl fu pa pf sf pk pg pp pz pv sc wg wp tr ss sp szs sv tx css csp cszs csv cpk cpg cpp cpz cpv cwg cwp sc_length tr_length gss gsp gszs gsv (va_A (wz_121 h0 gl fu pa pf sf pk pg pp pz pv h0_reason h0_place sc h0_stepCount h0_open h0_twoSides wg wp h0_waitingCount sc tr (sg sa sc_sign) sc_place sc_size sc_value ss sp szs sv sc_length sc_at tr tx tr_length ss css (fun j => (gss j).map (sg sa)) sp csp gsp szs cszs gszs sv csv gsv pk cpk gpk pg cpg (fun j => (gpg j).map (sg sa)) pp cpp gpp pz cpz gpz pv cpv gpv wg cwg (fun j => (gwg j).map (sg sa)) wp cwp gwp) sz)) (va_A (wz_121 h0 gl fu pa pf sf pk pg pp pz pv h0_reason h0_place sc h0_stepCount h0_open h0_twoSides wg wp h0_waitingCount sc tr (sg sa sc_sign) sc_place sc_size sc_value ss sp szs sv sc_length sc_at tr tx tr_length ss css (fun j => (gss j).map (sg sa)) sp csp gsp szs cszs gszs sv csv gsv pk cpk gpk pg cpg (fun j => (gpg j).map (sg sa)) pp cpp gpp pz cpz gpz pv cpv gpv wg cwg (fun j => (gwg j).map (sg sa)) wp cwp gwp) sz)) (tz_k 0 0 1 6) (va_A (wz_121 h0 gl fu pa pf sf pk pg pp pz pv h0_reason h0_place sc h0_stepCount h0_open h0_twoSides wg wp h0_waitingCount sc tr (sg sa sc_sign) sc_place sc_size sc_value ss sp szs sv sc_length sc_at tr tx tr_length ss css (fun j => (gss j).map (sg sa)) sp csp gsp szs cszs gszs sv csv gsv pk cpk gpk pg cpg (fun j => (gpg j).map (sg sa)) pp cpp gpp pz cpz gpz pv cpv gpv wg cwg (fun j => (gwg j).map (sg sa)) wp cwp gwp) sz) := by
  refine tz_ofW (cc := b_PR_readX) (maxL := 3) (ret := none) (by decide) rfl ?_
  intro p e s m args below meth c s₁ B hml hno hv
  obtain ⟨rfl, hsz, hP, hK, hD0, hSW⟩ := hv
  have hx := B.exec
  have hb := B.bytes
  have hr := B.returns
  have hts0 := atoms_spec (ws := w_PR_readX) B.pre
  have hts : ∀ w ∈ lw_g, w.before _ s = true := fun w h => hts0 w (List.mem_cons_of_mem _ h)
  have hown : s.vm.findClass R_PR = some m.cls := findClass_of_methodNamed B.named
  have hlocks := B.notSynchronized
  clear hts0
  subst hsz
  have hD := hD0.self (sz := s.heap.size)
  generalize hAe : va_A (wz_121 h0 gl fu pa pf sf pk pg pp pz pv h0_reason h0_place sc h0_stepCount h0_open h0_twoSides wg wp h0_waitingCount sc tr (sg sa sc_sign) sc_place sc_size sc_value ss sp szs sv sc_length sc_at tr tx tr_length ss css (fun j => (gss j).map (sg sa)) sp csp gsp szs cszs gszs sv csv gsv pk cpk gpk pg cpg (fun j => (gpg j).map (sg sa)) pp cpp gpp pz cpz gpz pv cpv gpv wg cwg (fun j => (gwg j).map (sg sa)) wp cwp gwp) s.heap.size = A at hD hSW ⊢
  have hA : ∀ q : Nat, s.heap.size ≤ q → A q := fun q h => by rw [← hAe]; exact Or.inr h
  clear hAe
  have hP : va_P (dC, dI) cls (wz_121 h0 gl fu pa pf sf pk pg pp pz pv h0_reason h0_place sc h0_stepCount h0_open h0_twoSides wg wp h0_waitingCount sc tr (sg sa sc_sign) sc_place sc_size sc_value ss sp szs sv sc_length sc_at tr tx tr_length ss css (fun j => (gss j).map (sg sa)) sp csp gsp szs cszs gszs sv csv gsv pk cpk gpk pg cpg (fun j => (gpg j).map (sg sa)) pp cpp gpp pz cpz gpz pv cpv gpv wg cwg (fun j => (gwg j).map (sg sa)) wp cwp gwp) s.heap := hP
  have hl := lv_entry ([.ref h0]) (n := 3) (Nat.le_of_ble_eq_true rfl)
  rw [lg_entry_eq]
  generalize (lg_sl ([.ref h0]) ++ List.replicate (3 - (lg_sl ([.ref h0])).length) Slot.unset).toArray = ls at hl ⊢
  have hl : lv_has ls 3 [(0, .ref h0)] := hl
  have k0 : (0 : Int32).toInt = 0 := by decide
  refine w_gen (A := A) hP (fun H locs hP hS => ?_)
  have k1 : (1 : Int32).toInt = 1 := by decide
  have k200 : (200 : Int32).toInt = 200 := by decide
  have isk := sk_is hsk
  refine lv_aload_n hx hb d_PR_readX_0 rfl (lv_at hl 0 rfl) ?_
  have hPc := hP.sb (wq := (wz_111 h0 gl fu pa pf sf pk pg pp pz pv h0_reason h0_place sc h0_stepCount h0_open h0_twoSides wg wp h0_waitingCount sc tr (sg sa sc_sign) sc_place sc_size sc_value ss sp szs sv sc_length sc_at)) [0, 1] rfl
  have hDc := hD.sb (wq := (wz_111 h0 gl fu pa pf sf pk pg pp pz pv h0_reason h0_place sc h0_stepCount h0_open h0_twoSides wg wp h0_waitingCount sc tr (sg sa sc_sign) sc_place sc_size sc_value ss sp szs sv sc_length sc_at)) [0, 1] (by decide) rfl
  have hKc := hK.sb (tyq := []) [] rfl
  have hFc := va_free (wc := (wz_111 h0 gl fu pa pf sf pk pg pp pz pv h0_reason h0_place sc h0_stepCount h0_open h0_twoSides wg wp h0_waitingCount sc tr (sg sa sc_sign) sc_place sc_size sc_value ss sp szs sv sc_length sc_at)) hD hS hA [0, 1] rfl
  refine tq_callv (tz_runV (As := []) (rest := []) ⟨hx, hb, hml, hown, hts⟩ (c_PR_enter l hlt dC dI H.size sa h0 gl fu pa pf sf pk pg pp pz pv sc wg wp tr ss sp szs sv h0_reason h0_place h0_stepCount h0_open h0_twoSides h0_waitingCount sc_sign sc_place sc_size sc_value sc_length sc_at (b_h0_open) (b_sc_sign) (b_sc_place)) (cwV 0 hts (gV kM_PR_184 kV_PR_enter kS_PR_enter kI_PR kC_PR_enter) rfl rfl rfl (by decide +kernel) ⟨(show 8 + 1 ≤ 5 * (dep + 1) + 15 from by (first | (apply Int.le_antisymm <;> omega) | omega)), (show 8 + (1 + 11) + (132) ≤ 120 * (dep + 1) + 300 from by (first | (apply Int.le_antisymm <;> omega) | omega))⟩) ⟨fun a U g mk z => by obtain ⟨z0, z1, zP, zK, zD, zS⟩ := z; exact ⟨z0, z1, zP, va_K.moved (u := U) (U := U.calling g mk a) (Vm.Alike.refl U.vm) zK, zD, sw.same (u := U) (U := U.calling g mk a) rfl zS⟩, va_recv hKc hPc (ci := 6) (q0 := 0) rfl rfl, fun U hU hW => ⟨rfl, by rw [hU], va_P.he hU.symm hPc, va_K.moved hW.alike hKc, hDc.weaken (fun _ _ _ _ => trivial), hSW.call hS hFc hW hU⟩⟩ rfl rfl hl.1 rfl (lv_room (Nat.le_of_ble_eq_true rfl)) d_PR_readX_1 ⟨Nat.le_of_ble_eq_true rfl, Nat.le_of_ble_eq_true rfl⟩) hS (fun q _ h => hFc q h) hFc (fun u t H1 locs ht hvm hw hB hz1 hk1 hS => ?_) (fun xx u t H1 locs ht hvm hw hXX hB hz1 hk1 hS => ?_)
  rotate_left
  · skip
    obtain ⟨n2, n3, n4⟩ := u
    try dsimp only at hw
    have bn2 := hw
    obtain ⟨hP1, hK1, hD1⟩ := hB
    replace hP1 := va_P.he ht hP1
    obtain ⟨hP, hD⟩ := va_join (wr := (wz_124 tr tx tr_length ss css (fun j => (gss j).map (sg sa)) sp csp gsp szs cszs gszs sv csv gsv pk cpk gpk pg cpg (fun j => (gpg j).map (sg sa)) pp cpp gpp pz cpz gpz pv cpv gpv wg cwg (fun j => (gwg j).map (sg sa)) wp cwp gwp)) (w1 := (wz_111 h0 gl fu pa pf sf pk pg pp pz pv n4 n3 sc h0_stepCount n2 h0_twoSides wg wp h0_waitingCount sc tr (sg sa sc_sign) sc_place sc_size sc_value ss sp szs sv sc_length sc_at)) hP hD [0, 1] [2, 3, 4, 5, 6, 7, 8, 9, 10, 11, 12, 13] rfl rfl (by decide) (by decide) hk1 hFc hP1 hD1
    have hP : va_P (dC, dI) cls (wz_125 tr tx tr_length ss css (fun j => (gss j).map (sg sa)) sp csp gsp szs cszs gszs sv csv gsv pk cpk gpk pg cpg (fun j => (gpg j).map (sg sa)) pp cpp gpp pz cpz gpz pv cpv gpv wg cwg (fun j => (gwg j).map (sg sa)) wp cwp gwp h0 gl fu pa pf sf pk pg pp pz pv n4 n3 sc h0_stepCount n2 h0_twoSides wg wp h0_waitingCount sc tr (sg sa sc_sign) sc_place sc_size sc_value ss sp szs sv sc_length sc_at) H1 := hP
    have hD : va_D A (wz_125 tr tx tr_length ss css (fun j => (gss j).map (sg sa)) sp csp gsp szs cszs gszs sv csv gsv pk cpk gpk pg cpg (fun j => (gpg j).map (sg sa)) pp cpp gpp pz cpz gpz pv cpv gpv wg cwg (fun j => (gwg j).map (sg sa)) wp cwp gwp h0 gl fu pa pf sf pk pg pp pz pv n4 n3 sc h0_stepCount n2 h0_twoSides wg wp h0_waitingCount sc tr (sg sa sc_sign) sc_place sc_size sc_value ss sp szs sv sc_length sc_at) := hD
    have hP9 := hP.sb (wq := (wz_121 h0 gl fu pa pf sf pk pg pp pz pv n4 n3 sc h0_stepCount n2 h0_twoSides wg wp h0_waitingCount sc tr (sg sa sc_sign) sc_place sc_size sc_value ss sp szs sv sc_length sc_at tr tx tr_length ss css (fun j => (gss j).map (sg sa)) sp csp gsp szs cszs gszs sv csv gsv pk cpk gpk pg cpg (fun j => (gpg j).map (sg sa)) pp cpp gpp pz cpz gpz pv cpv gpv wg cwg (fun j => (gwg j).map (sg sa)) wp cwp gwp)) [12, 13, 0, 1, 2, 3, 4, 5, 6, 7, 8, 9, 10, 11] rfl
    have hD9 := hD.sb (wq := (wz_121 h0 gl fu pa pf sf pk pg pp pz pv n4 n3 sc h0_stepCount n2 h0_twoSides wg wp h0_waitingCount sc tr (sg sa sc_sign) sc_place sc_size sc_value ss sp szs sv sc_length sc_at tr tx tr_length ss css (fun j => (gss j).map (sg sa)) sp csp gsp szs cszs gszs sv csv gsv pk cpk gpk pg cpg (fun j => (gpg j).map (sg sa)) pp cpp gpp pz cpz gpz pv cpv gpv wg cwg (fun j => (gwg j).map (sg sa)) wp cwp gwp)) [12, 13, 0, 1, 2, 3, 4, 5, 6, 7, 8, 9, 10, 11] (by decide) rfl
    exact tz_leave rfl hno hlocks (fun t ht hW => ⟨⟨(gpg, gpk, gpp, gpv, gpz, gwg, gwp, n2, n3, n4, h0_stepCount, h0_twoSides, h0_waitingCount, sc_at, sc_place, sc_sign, sc_size, sc_value), ⟨⟨bn2, b_h0_stepCount, b_h0_twoSides, b_h0_waitingCount, b_sc_at, b_sc_place, b_sc_sign, b_sc_size⟩, by rw [ht]; exact hXX.moved hW.alike⟩, va_P.he ht.symm hP9, va_K.moved hW.alike hK, hD9⟩, hS.F ht⟩) hS.2.2
  obtain ⟨n5, n6, n7⟩ := u
  try dsimp only at hw
  obtain ⟨bn5, xr1⟩ := hw
  try clear hw
  obtain ⟨hP1, hK1, hD1⟩ := hB
  replace hP1 := va_P.he ht hP1
  obtain ⟨hP, hD⟩ := va_join (wr := (wz_124 tr tx tr_length ss css (fun j => (gss j).map (sg sa)) sp csp gsp szs cszs gszs sv csv gsv pk cpk gpk pg cpg (fun j => (gpg j).map (sg sa)) pp cpp gpp pz cpz gpz pv cpv gpv wg cwg (fun j => (gwg j).map (sg sa)) wp cwp gwp)) (w1 := (wz_111 h0 gl fu pa pf sf pk pg pp pz pv n7 n6 sc h0_stepCount n5 h0_twoSides wg wp h0_waitingCount sc tr (sg sa sc_sign) sc_place sc_size sc_value ss sp szs sv sc_length sc_at)) hP hD [0, 1] [2, 3, 4, 5, 6, 7, 8, 9, 10, 11, 12, 13] rfl rfl (by decide) (by decide) hk1 hFc hP1 hD1
  clear hPc hDc hKc hFc hz1 hk1 hP1 hK1 hD1
  rename Heap => H
  have hP : va_P (dC, dI) cls (wz_125 tr tx tr_length ss css (fun j => (gss j).map (sg sa)) sp csp gsp szs cszs gszs sv csv gsv pk cpk gpk pg cpg (fun j => (gpg j).map (sg sa)) pp cpp gpp pz cpz gpz pv cpv gpv wg cwg (fun j => (gwg j).map (sg sa)) wp cwp gwp h0 gl fu pa pf sf pk pg pp pz pv n7 n6 sc h0_stepCount n5 h0_twoSides wg wp h0_waitingCount sc tr (sg sa sc_sign) sc_place sc_size sc_value ss sp szs sv sc_length sc_at) H := hP
  have hD : va_D A (wz_125 tr tx tr_length ss css (fun j => (gss j).map (sg sa)) sp csp gsp szs cszs gszs sv csv gsv pk cpk gpk pg cpg (fun j => (gpg j).map (sg sa)) pp cpp gpp pz cpz gpz pv cpv gpv wg cwg (fun j => (gwg j).map (sg sa)) wp cwp gwp h0 gl fu pa pf sf pk pg pp pz pv n7 n6 sc h0_stepCount n5 h0_twoSides wg wp h0_waitingCount sc tr (sg sa sc_sign) sc_place sc_size sc_value ss sp szs sv sc_length sc_at) := hD
  refine lv_aload_n hx hb d_PR_readX_4 rfl (lv_at hl 0 rfl) ?_
  refine va_get (D := (dC, dI)) (ci := 6) (v := .int h0_waitingCount) (C := R_PR) (T := F_PR) (N := 19) hx hb hts i_PR hown hK hP 12 rfl rfl 18 (by decide) (hts _ kF_PR_87) (fun _ h9 => h9) rfl d_PR_readX_5 ?_
  refine lv_istore_n (lv' := [(1, .int h0_waitingCount), (0, .ref h0)]) hx hb d_PR_readX_8 rfl hl (by decide) rfl (fun ls hl => ?_)
  refine lv_aload_n hx hb d_PR_readX_9 rfl (lv_at hl 1 rfl) ?_
  have hPc := hP.sb (wq := (wz_121 h0 gl fu pa pf sf pk pg pp pz pv n7 n6 sc h0_stepCount n5 h0_twoSides wg wp h0_waitingCount sc tr (sg sa sc_sign) sc_place sc_size sc_value ss sp szs sv sc_length sc_at tr tx tr_length ss css (fun j => (gss j).map (sg sa)) sp csp gsp szs cszs gszs sv csv gsv pk cpk gpk pg cpg (fun j => (gpg j).map (sg sa)) pp cpp gpp pz cpz gpz pv cpv gpv wg cwg (fun j => (gwg j).map (sg sa)) wp cwp gwp)) [12, 13, 0, 1, 2, 3, 4, 5, 6, 7, 8, 9, 10, 11] rfl
  have hDc := hD.sb (wq := (wz_121 h0 gl fu pa pf sf pk pg pp pz pv n7 n6 sc h0_stepCount n5 h0_twoSides wg wp h0_waitingCount sc tr (sg sa sc_sign) sc_place sc_size sc_value ss sp szs sv sc_length sc_at tr tx tr_length ss css (fun j => (gss j).map (sg sa)) sp csp gsp szs cszs gszs sv csv gsv pk cpk gpk pg cpg (fun j => (gpg j).map (sg sa)) pp cpp gpp pz cpz gpz pv cpv gpv wg cwg (fun j => (gwg j).map (sg sa)) wp cwp gwp)) [12, 13, 0, 1, 2, 3, 4, 5, 6, 7, 8, 9, 10, 11] (by decide) rfl
  have hKc := hK.sb (tyq := [(css, .object "WaferForge$Sign"), (csp, .int), (cszs, .int), (csv, .long), (cpk, .int), (cpg, .object "WaferForge$Sign"), (cpp, .int), (cpz, .int), (cpv, .long), (cwg, .object "WaferForge$Sign"), (cwp, .int)]) [0, 1, 2, 3, 4, 5, 6, 7, 8, 9, 10] rfl
  have hFc := va_free (wc := (wz_121 h0 gl fu pa pf sf pk pg pp pz pv n7 n6 sc h0_stepCount n5 h0_twoSides wg wp h0_waitingCount sc tr (sg sa sc_sign) sc_place sc_size sc_value ss sp szs sv sc_length sc_at tr tx tr_length ss css (fun j => (gss j).map (sg sa)) sp csp gsp szs cszs gszs sv csv gsv pk cpk gpk pg cpg (fun j => (gpg j).map (sg sa)) pp cpp gpp pz cpz gpz pv cpv gpv wg cwg (fun j => (gwg j).map (sg sa)) wp cwp gwp)) hD hS hA [12, 13, 0, 1, 2, 3, 4, 5, 6, 7, 8, 9, 10, 11] rfl
  refine tq_callv (tz_runV (As := []) (rest := []) ⟨hx, hb, hml, hown, hts⟩ (c_PR_readU l hlt dC dI H.size sa h0 gl fu pa pf sf pk pg pp pz pv sc wg wp tr ss sp szs sv tx css csp cszs csv cpk cpg cpp cpz cpv cwg cwp n7 n6 h0_stepCount n5 h0_twoSides h0_waitingCount sc_sign sc_place sc_size sc_value sc_length sc_at tr_length gss gsp gszs gsv gpk gpg gpp gpz gpv gwg gwp dep hK_readX (b_h0_stepCount) (bn5) (b_h0_twoSides) (b_h0_waitingCount) (b_sc_sign) (b_sc_place) (b_sc_size) (b_sc_length) (b_sc_at) (b_tr_length) (hsk) (by (try dsimp only) <;> (first | (apply Int.le_antisymm <;> omega) | omega)) (by (try dsimp only) <;> (first | (apply Int.le_antisymm <;> omega) | omega)) (by (try dsimp only) <;> (first | (apply Int.le_antisymm <;> omega) | omega)) (by (try dsimp only) <;> (first | (apply Int.le_antisymm <;> omega) | omega))) (cwV 0 hts (gV kM_PR_238 kV_PR_readU kS_PR_readU kI_PR kC_PR_readU) rfl rfl rfl (by decide +kernel) ⟨(show 5 * dep + 19 + 1 ≤ 5 * (dep + 1) + 15 from by (first | (apply Int.le_antisymm <;> omega) | omega)), (show 8 + (3 + 11) + (120 * dep + 390) ≤ 120 * (dep + 1) + 300 from by (first | (apply Int.le_antisymm <;> omega) | omega))⟩) ⟨fun a U g mk z => by obtain ⟨z0, z1, zP, zK, zD, zS⟩ := z; exact ⟨z0, z1, zP, va_K.moved (u := U) (U := U.calling g mk a) (Vm.Alike.refl U.vm) zK, zD, sw.same (u := U) (U := U.calling g mk a) rfl zS⟩, va_recv hKc hPc (ci := 6) (q0 := 0) rfl rfl, fun U hU hW => ⟨rfl, by rw [hU], va_P.he hU.symm hPc, va_K.moved hW.alike hKc, hDc.weaken (fun _ _ _ _ => trivial), hSW.call hS hFc hW hU⟩⟩ rfl rfl hl.1 rfl (lv_room (Nat.le_of_ble_eq_true rfl)) d_PR_readX_10 ⟨Nat.le_of_ble_eq_true rfl, Nat.le_of_ble_eq_true rfl⟩) hS (fun q _ h => hFc q h) hFc (fun u t H1 locs ht hvm hw hB hz1 hk1 hS => ?_) (fun xx u t H1 locs ht hvm hw hXX hB hz1 hk1 hS => ?_)
  rotate_left
  · skip
    obtain ⟨n9, n10, n11, n12, n13, n14, n15, n16, n17, n18, hq9r⟩ := u
    obtain ⟨n19, n20, n21, n22, n23, n24, n25, n26⟩ := hq9r
    try dsimp only at hw
    obtain ⟨bn16, bn19, bn20, bn21, bn22, bn23, bn24, bn25⟩ := hw
    obtain ⟨hP1, hK1, hD1⟩ := hB
    replace hP1 := va_P.he ht hP1
    obtain ⟨hP, hD⟩ := va_join (wr := []) (w1 := (wz_121 h0 gl fu pa pf sf pk pg pp pz pv n18 n17 sc n19 n16 n20 wg wp n21 sc tr (sg sa n24) n23 n25 n26 ss sp szs sv sc_length n22 tr tx tr_length ss css (fun j => (gss j).map (sg sa)) sp csp gsp szs cszs gszs sv csv gsv pk cpk n10 pg cpg (fun j => (n9 j).map (sg sa)) pp cpp n11 pz cpz n13 pv cpv n12 wg cwg (fun j => (n14 j).map (sg sa)) wp cwp n15)) hP hD [12, 13, 0, 1, 2, 3, 4, 5, 6, 7, 8, 9, 10, 11] [] rfl rfl (by decide) (by decide) hk1 hFc hP1 hD1
    have hP : va_P (dC, dI) cls (wz_121 h0 gl fu pa pf sf pk pg pp pz pv n18 n17 sc n19 n16 n20 wg wp n21 sc tr (sg sa n24) n23 n25 n26 ss sp szs sv sc_length n22 tr tx tr_length ss css (fun j => (gss j).map (sg sa)) sp csp gsp szs cszs gszs sv csv gsv pk cpk n10 pg cpg (fun j => (n9 j).map (sg sa)) pp cpp n11 pz cpz n13 pv cpv n12 wg cwg (fun j => (n14 j).map (sg sa)) wp cwp n15) H1 := hP
    have hD : va_D A (wz_121 h0 gl fu pa pf sf pk pg pp pz pv n18 n17 sc n19 n16 n20 wg wp n21 sc tr (sg sa n24) n23 n25 n26 ss sp szs sv sc_length n22 tr tx tr_length ss css (fun j => (gss j).map (sg sa)) sp csp gsp szs cszs gszs sv csv gsv pk cpk n10 pg cpg (fun j => (n9 j).map (sg sa)) pp cpp n11 pz cpz n13 pv cpv n12 wg cwg (fun j => (n14 j).map (sg sa)) wp cwp n15) := hD
    have hP9 := hP.sb (wq := (wz_121 h0 gl fu pa pf sf pk pg pp pz pv n18 n17 sc n19 n16 n20 wg wp n21 sc tr (sg sa n24) n23 n25 n26 ss sp szs sv sc_length n22 tr tx tr_length ss css (fun j => (gss j).map (sg sa)) sp csp gsp szs cszs gszs sv csv gsv pk cpk n10 pg cpg (fun j => (n9 j).map (sg sa)) pp cpp n11 pz cpz n13 pv cpv n12 wg cwg (fun j => (n14 j).map (sg sa)) wp cwp n15)) [0, 1, 2, 3, 4, 5, 6, 7, 8, 9, 10, 11, 12, 13] rfl
    have hD9 := hD.sb (wq := (wz_121 h0 gl fu pa pf sf pk pg pp pz pv n18 n17 sc n19 n16 n20 wg wp n21 sc tr (sg sa n24) n23 n25 n26 ss sp szs sv sc_length n22 tr tx tr_length ss css (fun j => (gss j).map (sg sa)) sp csp gsp szs cszs gszs sv csv gsv pk cpk n10 pg cpg (fun j => (n9 j).map (sg sa)) pp cpp n11 pz cpz n13 pv cpv n12 wg cwg (fun j => (n14 j).map (sg sa)) wp cwp n15)) [0, 1, 2, 3, 4, 5, 6, 7, 8, 9, 10, 11, 12, 13] (by decide) rfl
    exact tz_leave rfl hno hlocks (fun t ht hW => ⟨⟨(n9, n10, n11, n12, n13, n14, n15, n16, n17, n18, n19, n20, n21, n22, n23, n24, n25, n26), ⟨⟨bn16, bn19, bn20, bn21, bn22, bn23, bn24, bn25⟩, by rw [ht]; exact hXX.moved hW.alike⟩, va_P.he ht.symm hP9, va_K.moved hW.alike hK, hD9⟩, hS.F ht⟩) hS.2.2
  obtain ⟨n27, n28, n29, n30, n31, n32, n33, n34, n35, n36, hq9r⟩ := u
  obtain ⟨n37, n38, n39, n40, n41, n42, n43, n44⟩ := hq9r
  try dsimp only at hw
  obtain ⟨bn34, bn37, bn38, bn39, bn40, bn41, bn42, bn43, xr8⟩ := hw
  try clear hw
  have or8 := hsk
  obtain ⟨hsk, Xr8, ar8, cr8, wr8, mr8⟩ := xr8
  have nr8 := pX_n Xr8 (by (first | (apply Int.le_antisymm <;> omega) | omega)) (by (first | (apply Int.le_antisymm <;> omega) | omega))
  have dr8 := sk_is hsk
  obtain ⟨hP1, hK1, hD1⟩ := hB
  replace hP1 := va_P.he ht hP1
  obtain ⟨hP, hD⟩ := va_join (wr := []) (w1 := (wz_121 h0 gl fu pa pf sf pk pg pp pz pv n36 n35 sc n37 n34 n38 wg wp n39 sc tr (sg sa n42) n41 n43 n44 ss sp szs sv sc_length n40 tr tx tr_length ss css (fun j => (gss j).map (sg sa)) sp csp gsp szs cszs gszs sv csv gsv pk cpk n28 pg cpg (fun j => (n27 j).map (sg sa)) pp cpp n29 pz cpz n31 pv cpv n30 wg cwg (fun j => (n32 j).map (sg sa)) wp cwp n33)) hP hD [12, 13, 0, 1, 2, 3, 4, 5, 6, 7, 8, 9, 10, 11] [] rfl rfl (by decide) (by decide) hk1 hFc hP1 hD1
  clear hPc hDc hKc hFc hz1 hk1 hP1 hK1 hD1
  rename Heap => H
  have hP : va_P (dC, dI) cls (wz_121 h0 gl fu pa pf sf pk pg pp pz pv n36 n35 sc n37 n34 n38 wg wp n39 sc tr (sg sa n42) n41 n43 n44 ss sp szs sv sc_length n40 tr tx tr_length ss css (fun j => (gss j).map (sg sa)) sp csp gsp szs cszs gszs sv csv gsv pk cpk n28 pg cpg (fun j => (n27 j).map (sg sa)) pp cpp n29 pz cpz n31 pv cpv n30 wg cwg (fun j => (n32 j).map (sg sa)) wp cwp n33) H := hP
  have hD : va_D A (wz_121 h0 gl fu pa pf sf pk pg pp pz pv n36 n35 sc n37 n34 n38 wg wp n39 sc tr (sg sa n42) n41 n43 n44 ss sp szs sv sc_length n40 tr tx tr_length ss css (fun j => (gss j).map (sg sa)) sp csp gsp szs cszs gszs sv csv gsv pk cpk n28 pg cpg (fun j => (n27 j).map (sg sa)) pp cpp n29 pz cpz n31 pv cpv n30 wg cwg (fun j => (n32 j).map (sg sa)) wp cwp n33) := hD
  refine lv_iconst (v := 0) hx hb d_PR_readX_13 (by decide) ?_
  refine lv_istore_n (lv' := [(2, .int 0), (1, .int h0_waitingCount), (0, .ref h0)]) hx hb d_PR_readX_14 rfl hl (by decide) rfl (fun ls hl => ?_)
  refine w_loop (σ := Int32 × (Nat → Option Nat) × (Nat → Int32) × (Nat → Int32) × (Nat → Int64) × (Nat → Int32) × (Nat → Option Nat) × (Nat → Int32) × Int32 × Int32 × Int32 × Int32 × Int32 × Int32 × Int32 × Int32 × Nat × Int32 × Int64) (fun u H locs ls => match u with | (j15_l2, j15_pg, j15_pk, j15_pp, j15_pv, j15_pz, j15_wg, j15_wp, j15_h0_open, j15_h0_place, j15_h0_reason, j15_h0_stepCount, j15_h0_twoSides, j15_h0_waitingCount, j15_sc_at, j15_sc_place, j15_sc_sign, j15_sc_size, j15_sc_value) => (0 ≤ j15_h0_open.toInt ∧ j15_h0_open.toInt ≤ 40) ∧ (0 ≤ j15_h0_stepCount.toInt ∧ j15_h0_stepCount.toInt ≤ 4100) ∧ (0 ≤ j15_h0_twoSides.toInt ∧ j15_h0_twoSides.toInt ≤ 400) ∧ (0 ≤ j15_h0_waitingCount.toInt ∧ j15_h0_waitingCount.toInt ≤ 360) ∧ (-1 ≤ j15_sc_at.toInt ∧ j15_sc_at.toInt ≤ 2000) ∧ (0 ≤ j15_sc_place.toInt ∧ j15_sc_place.toInt ≤ 2000) ∧ (j15_sc_sign < 55) ∧ (0 ≤ j15_sc_size.toInt ∧ j15_sc_size.toInt ≤ 2000) ∧ (sk tr_length.toInt sc_length.toInt j15_sc_at.toInt j15_sc_sign j15_sc_place j15_sc_size j15_sc_value gss gsp gszs gsv) ∧ (0 ≤ j15_l2.toInt ∧ j15_l2.toInt ≤ 201 ∧ j15_h0_open.toInt = h0_open.toInt + 1 ∧ h0_waitingCount.toInt ≤ j15_h0_waitingCount.toInt ∧ j15_h0_waitingCount.toInt ≤ h0_waitingCount.toInt + 7 ∧ sc_place.toInt ≤ j15_sc_place.toInt) ∧ (pX (16 * h0_open.toInt + 1) (fun S => 0 :: pw j15_wg h0_waitingCount.toInt.toNat (j15_h0_waitingCount.toInt - h0_waitingCount.toInt).toNat S) (sl gpk gpg gpp gpz gpv h0_stepCount.toInt) (sl j15_pk j15_pg j15_pp j15_pz j15_pv j15_h0_stepCount.toInt) (20 * j15_sc_place.toInt - 20 * sc_place.toInt - 10 - pvc j15_wg h0_waitingCount.toInt.toNat (j15_h0_waitingCount.toInt - h0_waitingCount.toInt).toNat)) ∧ (py j15_wg h0_waitingCount.toInt.toNat (j15_h0_waitingCount.toInt - h0_waitingCount.toInt).toNat) ∧ (wk h0_waitingCount.toInt gwg j15_wg) ∧ va_P (dC, dI) cls (wz_121 h0 gl fu pa pf sf pk pg pp pz pv j15_h0_reason j15_h0_place sc j15_h0_stepCount j15_h0_open j15_h0_twoSides wg wp j15_h0_waitingCount sc tr (sg sa j15_sc_sign) j15_sc_place j15_sc_size j15_sc_value ss sp szs sv sc_length j15_sc_at tr tx tr_length ss css (fun j => (gss j).map (sg sa)) sp csp gsp szs cszs gszs sv csv gsv pk cpk j15_pk pg cpg (fun j => (j15_pg j).map (sg sa)) pp cpp j15_pp pz cpz j15_pz pv cpv j15_pv wg cwg (fun j => (j15_wg j).map (sg sa)) wp cwp j15_wp) H ∧ va_D A (wz_121 h0 gl fu pa pf sf pk pg pp pz pv j15_h0_reason j15_h0_place sc j15_h0_stepCount j15_h0_open j15_h0_twoSides wg wp j15_h0_waitingCount sc tr (sg sa j15_sc_sign) j15_sc_place j15_sc_size j15_sc_value ss sp szs sv sc_length j15_sc_at tr tx tr_length ss css (fun j => (gss j).map (sg sa)) sp csp gsp szs cszs gszs sv csv gsv pk cpk j15_pk pg cpg (fun j => (j15_pg j).map (sg sa)) pp cpp j15_pp pz cpz j15_pz pv cpv j15_pv wg cwg (fun j => (j15_wg j).map (sg sa)) wp cwp j15_wp) ∧ va_S A s.heap H locs ∧ lv_has ls 3 [(0, .ref h0), (1, .int h0_waitingCount), (2, .int j15_l2)]) (fun u => match u with | (j15_l2, j15_pg, j15_pk, j15_pp, j15_pv, j15_pz, j15_wg, j15_wp, j15_h0_open, j15_h0_place, j15_h0_reason, j15_h0_stepCount, j15_h0_twoSides, j15_h0_waitingCount, j15_sc_at, j15_sc_place, j15_sc_sign, j15_sc_size, j15_sc_value) => (201 - j15_l2.toInt).toNat) ?_ (0, n27, n28, n29, n30, n31, n32, n33, n34, n35, n36, n37, n38, n39, n40, n41, n42, n43, n44) ⟨bn34, bn37, bn38, bn39, bn40, bn41, bn42, bn43, hsk, by (try dsimp only) <;> (first | (apply Int.le_antisymm <;> omega) | omega), pX_mono (pX_eq Xr8 (fun S => by rw [pw_0 (by (first | (apply Int.le_antisymm <;> omega) | omega))])) (by (first | (apply Int.le_antisymm <;> omega) | omega)) (by rw [pvc_0 (by (first | (apply Int.le_antisymm <;> omega) | omega))]; (try dsimp only) <;> (first | (apply Int.le_antisymm <;> omega) | omega)), fun j h1 => absurd h1 (by (first | (apply Int.le_antisymm <;> omega) | omega)), wr8, hP, hD, hS, lv_sub hl [2, 1, 0] rfl⟩
  intro N15 ih15 u H locs ls hN15 hI
  obtain ⟨j15_l2, j15_pg, j15_pk, j15_pp, j15_pv, j15_pz, j15_wg, j15_wp, j15_h0_open, j15_h0_place, hq9r⟩ := u
  obtain ⟨j15_h0_reason, j15_h0_stepCount, j15_h0_twoSides, j15_h0_waitingCount, j15_sc_at, j15_sc_place, j15_sc_sign, j15_sc_size, j15_sc_value⟩ := hq9r
  obtain ⟨b_j15_h0_open, b_j15_h0_stepCount, b_j15_h0_twoSides, b_j15_h0_waitingCount, b_j15_sc_at, b_j15_sc_place, b_j15_sc_sign, b_j15_sc_size, hsk, v1, hq9r⟩ := hI
  obtain ⟨hX, hpy, hwk, hP, hD, hS, hl⟩ := hq9r
  have hN15 : (201 - j15_l2.toInt).toNat < N15 + 1 := hN15
  refine lv_iload_n hx hb d_PR_readX_15 rfl (lv_at hl 2 rfl) ?_
  refine lv_sipush (v := 200) hx hb d_PR_readX_16 (by decide) ?_
  refine w_cut (pc2 := 50) (σ := Unit) (fun u H locs ls => match u with | _ => va_P (dC, dI) cls (wz_121 h0 gl fu pa pf sf pk pg pp pz pv j15_h0_reason j15_h0_place sc j15_h0_stepCount j15_h0_open j15_h0_twoSides wg wp j15_h0_waitingCount sc tr (sg sa j15_sc_sign) j15_sc_place j15_sc_size j15_sc_value ss sp szs sv sc_length j15_sc_at tr tx tr_length ss css (fun j => (gss j).map (sg sa)) sp csp gsp szs cszs gszs sv csv gsv pk cpk j15_pk pg cpg (fun j => (j15_pg j).map (sg sa)) pp cpp j15_pp pz cpz j15_pz pv cpv j15_pv wg cwg (fun j => (j15_wg j).map (sg sa)) wp cwp j15_wp) H ∧ va_D A (wz_121 h0 gl fu pa pf sf pk pg pp pz pv j15_h0_reason j15_h0_place sc j15_h0_stepCount j15_h0_open j15_h0_twoSides wg wp j15_h0_waitingCount sc tr (sg sa j15_sc_sign) j15_sc_place j15_sc_size j15_sc_value ss sp szs sv sc_length j15_sc_at tr tx tr_length ss css (fun j => (gss j).map (sg sa)) sp csp gsp szs cszs gszs sv csv gsv pk cpk j15_pk pg cpg (fun j => (j15_pg j).map (sg sa)) pp cpp j15_pp pz cpz j15_pz pv cpv j15_pv wg cwg (fun j => (j15_wg j).map (sg sa)) wp cwp j15_wp) ∧ va_S A s.heap H locs ∧ lv_has ls 3 [(0, .ref h0), (1, .int h0_waitingCount)]) (fun u => match u with | _ => []) ?_ (fun jn50 => ?_)
  · intro u H locs ls hI
    obtain ⟨hP, hD, hS, hl⟩ := hI
    refine lv_aload_n hx hb d_PR_readX_50 rfl (lv_at hl 0 rfl) ?_
    refine lv_iload_n hx hb d_PR_readX_51 rfl (lv_at hl 1 rfl) ?_
    refine lv_iconst (v := 1) hx hb d_PR_readX_52 (by decide) ?_
    have d53 := sk_is hsk
    have hPc := hP.sb (wq := (wz_122 h0 gl fu pa pf sf pk pg pp pz pv j15_h0_reason j15_h0_place sc j15_h0_stepCount j15_h0_open j15_h0_twoSides wg wp j15_h0_waitingCount pk cpk j15_pk pg cpg (fun j => (j15_pg j).map (sg sa)) pp cpp j15_pp pz cpz j15_pz pv cpv j15_pv wg cwg (fun j => (j15_wg j).map (sg sa)) wp cwp j15_wp)) [0, 7, 8, 9, 10, 11, 12, 13] rfl
    have hDc := hD.sb (wq := (wz_122 h0 gl fu pa pf sf pk pg pp pz pv j15_h0_reason j15_h0_place sc j15_h0_stepCount j15_h0_open j15_h0_twoSides wg wp j15_h0_waitingCount pk cpk j15_pk pg cpg (fun j => (j15_pg j).map (sg sa)) pp cpp j15_pp pz cpz j15_pz pv cpv j15_pv wg cwg (fun j => (j15_wg j).map (sg sa)) wp cwp j15_wp)) [0, 7, 8, 9, 10, 11, 12, 13] (by decide) rfl
    have hKc := hK.sb (tyq := [(cpk, .int), (cpg, .object "WaferForge$Sign"), (cpp, .int), (cpz, .int), (cpv, .long), (cwg, .object "WaferForge$Sign"), (cwp, .int)]) [4, 5, 6, 7, 8, 9, 10] rfl
    have hFc := va_free (wc := (wz_122 h0 gl fu pa pf sf pk pg pp pz pv j15_h0_reason j15_h0_place sc j15_h0_stepCount j15_h0_open j15_h0_twoSides wg wp j15_h0_waitingCount pk cpk j15_pk pg cpg (fun j => (j15_pg j).map (sg sa)) pp cpp j15_pp pz cpz j15_pz pv cpv j15_pv wg cwg (fun j => (j15_wg j).map (sg sa)) wp cwp j15_wp)) hD hS hA [0, 7, 8, 9, 10, 11, 12, 13] rfl
    refine va_callv (va_runV (As := [.int h0_waitingCount, .int 1]) (rest := []) ⟨hx, hb, hml, hown, hts⟩ (c_PR_settle l dC dI H.size sa h0 gl fu pa pf sf pk pg pp pz pv sc wg wp cpk cpg cpp cpz cpv cwg cwp j15_h0_reason j15_h0_place j15_h0_stepCount j15_h0_open j15_h0_twoSides j15_h0_waitingCount j15_pk j15_pg j15_pp j15_pz j15_pv j15_wg j15_wp ((16 * h0_open.toInt + 1)) ((20 * j15_sc_place.toInt - 20 * sc_place.toInt - 10)) ((sl gpk gpg gpp gpz gpv h0_stepCount.toInt)) (b_j15_h0_stepCount) (b_j15_h0_waitingCount) h0_waitingCount 1 (hX) (hpy) (by (try dsimp only) <;> (first | (apply Int.le_antisymm <;> omega) | omega)) (by (try dsimp only) <;> (first | (apply Int.le_antisymm <;> omega) | omega)) (by rw [sl_len]; (first | (apply Int.le_antisymm <;> omega) | omega))) (cwV 2 hts (gV kM_PR_248 kV_PR_settle kS_PR_settle kI_PR kC_PR_settle) rfl rfl rfl (by decide +kernel) ⟨(show 1 + 1 ≤ 5 * (dep + 1) + 15 from by (first | (apply Int.le_antisymm <;> omega) | omega)), (show 8 + (3 + 11) + (26) ≤ 120 * (dep + 1) + 300 from by (first | (apply Int.le_antisymm <;> omega) | omega))⟩) ⟨fun a U g mk z => by obtain ⟨z0, z1, zP, zK, zD, zS⟩ := z; exact ⟨z0, z1, zP, va_K.moved (u := U) (U := U.calling g mk a) (Vm.Alike.refl U.vm) zK, zD, sw.same (u := U) (U := U.calling g mk a) rfl zS⟩, va_recv hKc hPc (ci := 6) (q0 := 0) rfl rfl, fun U hU hW => ⟨rfl, by rw [hU], va_P.he hU.symm hPc, va_K.moved hW.alike hKc, hDc.weaken (fun _ _ _ _ => trivial), hSW.call hS hFc hW hU⟩⟩ rfl rfl hl.1 rfl (lv_room (Nat.le_of_ble_eq_true rfl)) d_PR_readX_53 ⟨(Nat.zero_le _), (Nat.zero_le _)⟩) hS (fun q _ h => hFc q h) hFc (fun u t H1 locs ht hvm hw hB hz1 hk1 hS => ?_)
    obtain ⟨n46, n47, n48, n49, n50, n51, n52⟩ := u
    try dsimp only at hw
    obtain ⟨bn51, bn52, xr45⟩ := hw
    try clear hw
    have hX := xr45.2.2
    have sr45 := xr45.1
    have kr45 := xr45.2.1
    clear xr45
    have y9 := pX_len hX
    rw [sl_len] at y9
    have q53 := py_top (f := h0_waitingCount.toInt.toNat) (i2 := (n52.toInt - h0_waitingCount.toInt).toNat) (L := 1) (k := 0) hpy (by clear kr45; (first | (apply Int.le_antisymm <;> omega) | omega)) (fun z => by rw [show h0_waitingCount.toInt.toNat + (n52.toInt - h0_waitingCount.toInt).toNat - 1 = (n52.toInt - 1).toNat from (by clear kr45; (first | (apply Int.le_antisymm <;> omega) | omega))]; exact kr45 (by clear kr45; (first | (apply Int.le_antisymm <;> omega) | omega))) (Int.le_refl _)
    clear kr45
    obtain ⟨hP1, hK1, hD1⟩ := hB
    replace hP1 := va_P.he ht hP1
    obtain ⟨hP, hD⟩ := va_join (wr := (wz_107 sc tr (sg sa j15_sc_sign) j15_sc_place j15_sc_size j15_sc_value ss sp szs sv sc_length j15_sc_at tr tx tr_length ss css (fun j => (gss j).map (sg sa)) sp csp gsp szs cszs gszs sv csv gsv)) (w1 := (wz_122 h0 gl fu pa pf sf pk pg pp pz pv j15_h0_reason j15_h0_place sc n51 j15_h0_open j15_h0_twoSides wg wp n52 pk cpk n47 pg cpg (fun j => (n46 j).map (sg sa)) pp cpp n48 pz cpz n50 pv cpv n49 wg cwg (fun j => (j15_wg j).map (sg sa)) wp cwp j15_wp)) hP hD [0, 7, 8, 9, 10, 11, 12, 13] [1, 2, 3, 4, 5, 6] rfl rfl (by decide) (by decide) hk1 hFc hP1 hD1
    clear hPc hDc hKc hFc hz1 hk1 hP1 hK1 hD1
    rename Heap => H
    have hP : va_P (dC, dI) cls (wz_136 sc tr (sg sa j15_sc_sign) j15_sc_place j15_sc_size j15_sc_value ss sp szs sv sc_length j15_sc_at tr tx tr_length ss css (fun j => (gss j).map (sg sa)) sp csp gsp szs cszs gszs sv csv gsv h0 gl fu pa pf sf pk pg pp pz pv j15_h0_reason j15_h0_place sc n51 j15_h0_open j15_h0_twoSides wg wp n52 pk cpk n47 pg cpg (fun j => (n46 j).map (sg sa)) pp cpp n48 pz cpz n50 pv cpv n49 wg cwg (fun j => (j15_wg j).map (sg sa)) wp cwp j15_wp) H := hP
    have hD : va_D A (wz_136 sc tr (sg sa j15_sc_sign) j15_sc_place j15_sc_size j15_sc_value ss sp szs sv sc_length j15_sc_at tr tx tr_length ss css (fun j => (gss j).map (sg sa)) sp csp gsp szs cszs gszs sv csv gsv h0 gl fu pa pf sf pk pg pp pz pv j15_h0_reason j15_h0_place sc n51 j15_h0_open j15_h0_twoSides wg wp n52 pk cpk n47 pg cpg (fun j => (n46 j).map (sg sa)) pp cpp n48 pz cpz n50 pv cpv n49 wg cwg (fun j => (j15_wg j).map (sg sa)) wp cwp j15_wp) := hD
    refine lv_aload_n hx hb d_PR_readX_56 rfl (lv_at hl 0 rfl) ?_
    refine lv_dup hx hb d_PR_readX_57 rfl ?_
    refine va_get (D := (dC, dI)) (ci := 6) (v := .int j15_h0_open) (C := R_PR) (T := F_PR) (N := 19) hx hb hts i_PR hown hK hP 6 rfl rfl 14 (by decide) (hts _ kF_PR_84) (fun _ h9 => h9) rfl d_PR_readX_58 ?_
    refine lv_iconst (v := 1) hx hb d_PR_readX_61 (by decide) ?_
    refine lv_isub hx hb d_PR_readX_62 ?_
    refine lv_topi (fun x53 ex53 => ?_)
    have tx53 : x53.toInt = j15_h0_open.toInt - 1 := by have z := i32_sub ex53 (by (first | (apply Int.le_antisymm <;> omega) | omega)) (by (first | (apply Int.le_antisymm <;> omega) | omega)); first | exact z | (first | (apply Int.le_antisymm <;> omega) | omega)
    refine va_put (D := (dC, dI)) (ci := 6) (v := .int x53) (ty := .int) (C := R_PR) (T := F_PR) (N := 19) hx hb hts i_PR t_PR t_PR_ok n_PR hown hK hP hD hS 6 rfl rfl 14 (by decide) (hts _ kF_PR_84) (fun _ h9 => h9) rfl (by decide +kernel) rfl rfl (Nat.le_of_ble_eq_true rfl) d_PR_readX_63 (fun H locs hP hD hS => ?_)
    have hP9 := hP.sb (wq := (wz_121 h0 gl fu pa pf sf pk pg pp pz pv j15_h0_reason j15_h0_place sc n51 x53 j15_h0_twoSides wg wp n52 sc tr (sg sa j15_sc_sign) j15_sc_place j15_sc_size j15_sc_value ss sp szs sv sc_length j15_sc_at tr tx tr_length ss css (fun j => (gss j).map (sg sa)) sp csp gsp szs cszs gszs sv csv gsv pk cpk n47 pg cpg (fun j => (n46 j).map (sg sa)) pp cpp n48 pz cpz n50 pv cpv n49 wg cwg (fun j => (j15_wg j).map (sg sa)) wp cwp j15_wp)) [6, 0, 1, 2, 3, 4, 5, 7, 8, 9, 10, 11, 12, 13] rfl
    have hD9 := hD.sb (wq := (wz_121 h0 gl fu pa pf sf pk pg pp pz pv j15_h0_reason j15_h0_place sc n51 x53 j15_h0_twoSides wg wp n52 sc tr (sg sa j15_sc_sign) j15_sc_place j15_sc_size j15_sc_value ss sp szs sv sc_length j15_sc_at tr tx tr_length ss css (fun j => (gss j).map (sg sa)) sp csp gsp szs cszs gszs sv csv gsv pk cpk n47 pg cpg (fun j => (n46 j).map (sg sa)) pp cpp n48 pz cpz n50 pv cpv n49 wg cwg (fun j => (j15_wg j).map (sg sa)) wp cwp j15_wp)) [6, 0, 1, 2, 3, 4, 5, 7, 8, 9, 10, 11, 12, 13] (by decide) rfl
    exact tz_up (fun _ => rfl) (W.vret hx hb hr (fun t ht hW => ⟨⟨(n46, n47, n48, n49, n50, j15_wg, j15_wp, x53, j15_h0_place, j15_h0_reason, n51, j15_h0_twoSides, n52, j15_sc_at, j15_sc_place, j15_sc_sign, j15_sc_size, j15_sc_value), ⟨rfl, ⟨by (try dsimp only) <;> (first | (apply Int.le_antisymm <;> omega) | omega), bn51, b_j15_h0_twoSides, bn52, b_j15_sc_at, b_j15_sc_place, b_j15_sc_sign, b_j15_sc_size, ⟨hsk, pX_mono (pX_eq hX (fun S => by rw [pw_0 (by (first | (apply Int.le_antisymm <;> omega) | omega))])) (Int.le_refl _) (by rw [pvc_0 (by (first | (apply Int.le_antisymm <;> omega) | omega))]; (try dsimp only) <;> (first | (apply Int.le_antisymm <;> omega) | omega)), by (try dsimp only) <;> (first | (apply Int.le_antisymm <;> omega) | omega), by (try dsimp only) <;> (first | (apply Int.le_antisymm <;> omega) | omega), hwk, by (try dsimp only) <;> (first | (apply Int.le_antisymm <;> omega) | omega)⟩⟩⟩, va_P.he ht.symm hP9, va_K.moved hW.alike hK, hD9⟩, hS.F ht⟩) hS.2.2 d_PR_readX_66)
  · skip
    refine lv_icmp_gt (tgt := 50) hx hb d_PR_readX_19 (by decide) (fun c19 => ?_) (fun c19 => ?_)
    · have q19 := ltI c19
      exact jn50 () _ _ _ ⟨hP, hD, hS, lv_sub hl [0, 1] rfl⟩
    · have q19 := nltI c19
      refine lv_aload_n hx hb d_PR_readX_22 rfl (lv_at hl 0 rfl) ?_
      refine va_get (D := (dC, dI)) (ci := 6) (v := .ref sc) (C := R_PR) (T := F_PR) (N := 19) hx hb hts i_PR hown hK hP 0 rfl rfl 12 (by decide) (hts _ kF_PR_43) (fun _ h9 => h9) rfl d_PR_readX_23 ?_
      refine va_get (D := (dC, dI)) (ci := 8) (v := .ref (sg sa j15_sc_sign)) (C := R_SC) (T := F_SC) (N := 11) hx hb hts i_SC hown hK hP 1 rfl rfl 1 (by decide) (hts _ kF_PR_93) (fun _ h9 => h9) rfl d_PR_readX_26 ?_
      refine va_getE (i := j15_sc_sign) (q := ("WaferForge$Sign", "level", "I", sg_level)) hx hb hSW.2.2.2.1 b_j15_sc_sign hS hown (List.mem_of_getElem? (i := 1) rfl) (hts _ kF_PR_241) (fun _ h9 => h9) d_PR_readX_29 ?_
      refine lv_topi (fun x54 ex54 => ?_)
      have ex54 : x54 = sg_level.getD j15_sc_sign 0 := ex54
      refine lv_if_le (tgt := 50) hx hb d_PR_readX_32 (by decide) (fun c32 => ?_) (fun c32 => ?_)
      · have q32 := leI c32
        exact jn50 () _ _ _ ⟨hP, hD, hS, lv_sub hl [0, 1] rfl⟩
      · have q32 := nleI c32
        have hlv := (sg_lv j15_sc_sign (sk_is hsk).1).1 (by rw [show lvl j15_sc_sign = x54.toInt from by rw [ex54]; rfl]; (first | (apply Int.le_antisymm <;> omega) | omega))
        have d35 := sk_is hsk
        refine lv_aload_n hx hb d_PR_readX_35 rfl (lv_at hl 0 rfl) ?_
        refine lv_iload_n hx hb d_PR_readX_36 rfl (lv_at hl 1 rfl) ?_
        have hPc := hP.sb (wq := (wz_121 h0 gl fu pa pf sf pk pg pp pz pv j15_h0_reason j15_h0_place sc j15_h0_stepCount j15_h0_open j15_h0_twoSides wg wp j15_h0_waitingCount sc tr (sg sa j15_sc_sign) j15_sc_place j15_sc_size j15_sc_value ss sp szs sv sc_length j15_sc_at tr tx tr_length ss css (fun j => (gss j).map (sg sa)) sp csp gsp szs cszs gszs sv csv gsv pk cpk j15_pk pg cpg (fun j => (j15_pg j).map (sg sa)) pp cpp j15_pp pz cpz j15_pz pv cpv j15_pv wg cwg (fun j => (j15_wg j).map (sg sa)) wp cwp j15_wp)) [0, 1, 2, 3, 4, 5, 6, 7, 8, 9, 10, 11, 12, 13] rfl
        have hDc := hD.sb (wq := (wz_121 h0 gl fu pa pf sf pk pg pp pz pv j15_h0_reason j15_h0_place sc j15_h0_stepCount j15_h0_open j15_h0_twoSides wg wp j15_h0_waitingCount sc tr (sg sa j15_sc_sign) j15_sc_place j15_sc_size j15_sc_value ss sp szs sv sc_length j15_sc_at tr tx tr_length ss css (fun j => (gss j).map (sg sa)) sp csp gsp szs cszs gszs sv csv gsv pk cpk j15_pk pg cpg (fun j => (j15_pg j).map (sg sa)) pp cpp j15_pp pz cpz j15_pz pv cpv j15_pv wg cwg (fun j => (j15_wg j).map (sg sa)) wp cwp j15_wp)) [0, 1, 2, 3, 4, 5, 6, 7, 8, 9, 10, 11, 12, 13] (by decide) rfl
        have hKc := hK.sb (tyq := [(css, .object "WaferForge$Sign"), (csp, .int), (cszs, .int), (csv, .long), (cpk, .int), (cpg, .object "WaferForge$Sign"), (cpp, .int), (cpz, .int), (cpv, .long), (cwg, .object "WaferForge$Sign"), (cwp, .int)]) [0, 1, 2, 3, 4, 5, 6, 7, 8, 9, 10] rfl
        have hFc := va_free (wc := (wz_121 h0 gl fu pa pf sf pk pg pp pz pv j15_h0_reason j15_h0_place sc j15_h0_stepCount j15_h0_open j15_h0_twoSides wg wp j15_h0_waitingCount sc tr (sg sa j15_sc_sign) j15_sc_place j15_sc_size j15_sc_value ss sp szs sv sc_length j15_sc_at tr tx tr_length ss css (fun j => (gss j).map (sg sa)) sp csp gsp szs cszs gszs sv csv gsv pk cpk j15_pk pg cpg (fun j => (j15_pg j).map (sg sa)) pp cpp j15_pp pz cpz j15_pz pv cpv j15_pv wg cwg (fun j => (j15_wg j).map (sg sa)) wp cwp j15_wp)) hD hS hA [0, 1, 2, 3, 4, 5, 6, 7, 8, 9, 10, 11, 12, 13] rfl
        refine tq_callv (tz_runV (As := [.int h0_waitingCount]) (rest := []) ⟨hx, hb, hml, hown, hts⟩ (c_PR_readTwoSides l hlt dC dI H.size sa h0 gl fu pa pf sf pk pg pp pz pv sc wg wp tr ss sp szs sv tx css csp cszs csv cpk cpg cpp cpz cpv cwg cwp j15_h0_reason j15_h0_place j15_h0_stepCount j15_h0_open j15_h0_twoSides j15_h0_waitingCount j15_sc_sign j15_sc_place j15_sc_size j15_sc_value sc_length j15_sc_at tr_length gss gsp gszs gsv j15_pk j15_pg j15_pp j15_pz j15_pv j15_wg j15_wp ((16 * h0_open.toInt + 1)) ((20 * j15_sc_place.toInt - 20 * sc_place.toInt - 10)) ((sl gpk gpg gpp gpz gpv h0_stepCount.toInt)) (b_j15_h0_stepCount) (b_j15_h0_twoSides) (b_j15_h0_waitingCount) (b_j15_sc_sign) (b_j15_sc_place) (b_j15_sc_size) (b_sc_length) (b_j15_sc_at) (b_tr_length) h0_waitingCount (hsk) (hlv) (hX) (hpy) (by (try dsimp only) <;> (first | (apply Int.le_antisymm <;> omega) | omega)) (by (try dsimp only) <;> (first | (apply Int.le_antisymm <;> omega) | omega)) (by rw [sl_len]; (first | (apply Int.le_antisymm <;> omega) | omega)) (by (try dsimp only) <;> (first | (apply Int.le_antisymm <;> omega) | omega))) (cwV 1 hts (gV kM_PR_244 kV_PR_readTwoSides kS_PR_readTwoSides kI_PR kC_PR_readTwoSides) rfl rfl rfl (by decide +kernel) ⟨(show 8 + 1 ≤ 5 * (dep + 1) + 15 from by (first | (apply Int.le_antisymm <;> omega) | omega)), (show 8 + (4 + 11) + (132) ≤ 120 * (dep + 1) + 300 from by (first | (apply Int.le_antisymm <;> omega) | omega))⟩) ⟨fun a U g mk z => by obtain ⟨z0, z1, zP, zK, zD, zS⟩ := z; exact ⟨z0, z1, zP, va_K.moved (u := U) (U := U.calling g mk a) (Vm.Alike.refl U.vm) zK, zD, sw.same (u := U) (U := U.calling g mk a) rfl zS⟩, va_recv hKc hPc (ci := 6) (q0 := 0) rfl rfl, fun U hU hW => ⟨rfl, by rw [hU], va_P.he hU.symm hPc, va_K.moved hW.alike hKc, hDc.weaken (fun _ _ _ _ => trivial), hSW.call hS hFc hW hU⟩⟩ rfl rfl hl.1 rfl (lv_room (Nat.le_of_ble_eq_true rfl)) d_PR_readX_37 ⟨Nat.le_of_ble_eq_true rfl, Nat.le_of_ble_eq_true rfl⟩) hS (fun q _ h => hFc q h) hFc (fun u t H1 locs ht hvm hw hB hz1 hk1 hS => ?_) (fun xx u t H1 locs ht hvm hw hXX hB hz1 hk1 hS => ?_)
        rotate_left
        · skip
          obtain ⟨n56, n57, n58, n59, n60, n61, n62, n63, n64, n65, hq9r⟩ := u
          obtain ⟨n66, n67, n68, n69, n70, n71, n72⟩ := hq9r
          try dsimp only at hw
          obtain ⟨bn65, bn66, bn67, bn68, bn69, bn70, bn71⟩ := hw
          obtain ⟨hP1, hK1, hD1⟩ := hB
          replace hP1 := va_P.he ht hP1
          obtain ⟨hP, hD⟩ := va_join (wr := []) (w1 := (wz_121 h0 gl fu pa pf sf pk pg pp pz pv n64 n63 sc n65 j15_h0_open n66 wg wp n67 sc tr (sg sa n70) n69 n71 n72 ss sp szs sv sc_length n68 tr tx tr_length ss css (fun j => (gss j).map (sg sa)) sp csp gsp szs cszs gszs sv csv gsv pk cpk n57 pg cpg (fun j => (n56 j).map (sg sa)) pp cpp n58 pz cpz n60 pv cpv n59 wg cwg (fun j => (n61 j).map (sg sa)) wp cwp n62)) hP hD [0, 1, 2, 3, 4, 5, 6, 7, 8, 9, 10, 11, 12, 13] [] rfl rfl (by decide) (by decide) hk1 hFc hP1 hD1
          have hP : va_P (dC, dI) cls (wz_121 h0 gl fu pa pf sf pk pg pp pz pv n64 n63 sc n65 j15_h0_open n66 wg wp n67 sc tr (sg sa n70) n69 n71 n72 ss sp szs sv sc_length n68 tr tx tr_length ss css (fun j => (gss j).map (sg sa)) sp csp gsp szs cszs gszs sv csv gsv pk cpk n57 pg cpg (fun j => (n56 j).map (sg sa)) pp cpp n58 pz cpz n60 pv cpv n59 wg cwg (fun j => (n61 j).map (sg sa)) wp cwp n62) H1 := hP
          have hD : va_D A (wz_121 h0 gl fu pa pf sf pk pg pp pz pv n64 n63 sc n65 j15_h0_open n66 wg wp n67 sc tr (sg sa n70) n69 n71 n72 ss sp szs sv sc_length n68 tr tx tr_length ss css (fun j => (gss j).map (sg sa)) sp csp gsp szs cszs gszs sv csv gsv pk cpk n57 pg cpg (fun j => (n56 j).map (sg sa)) pp cpp n58 pz cpz n60 pv cpv n59 wg cwg (fun j => (n61 j).map (sg sa)) wp cwp n62) := hD
          have hP9 := hP.sb (wq := (wz_121 h0 gl fu pa pf sf pk pg pp pz pv n64 n63 sc n65 j15_h0_open n66 wg wp n67 sc tr (sg sa n70) n69 n71 n72 ss sp szs sv sc_length n68 tr tx tr_length ss css (fun j => (gss j).map (sg sa)) sp csp gsp szs cszs gszs sv csv gsv pk cpk n57 pg cpg (fun j => (n56 j).map (sg sa)) pp cpp n58 pz cpz n60 pv cpv n59 wg cwg (fun j => (n61 j).map (sg sa)) wp cwp n62)) [0, 1, 2, 3, 4, 5, 6, 7, 8, 9, 10, 11, 12, 13] rfl
          have hD9 := hD.sb (wq := (wz_121 h0 gl fu pa pf sf pk pg pp pz pv n64 n63 sc n65 j15_h0_open n66 wg wp n67 sc tr (sg sa n70) n69 n71 n72 ss sp szs sv sc_length n68 tr tx tr_length ss css (fun j => (gss j).map (sg sa)) sp csp gsp szs cszs gszs sv csv gsv pk cpk n57 pg cpg (fun j => (n56 j).map (sg sa)) pp cpp n58 pz cpz n60 pv cpv n59 wg cwg (fun j => (n61 j).map (sg sa)) wp cwp n62)) [0, 1, 2, 3, 4, 5, 6, 7, 8, 9, 10, 11, 12, 13] (by decide) rfl
          exact tz_leave rfl hno hlocks (fun t ht hW => ⟨⟨(n56, n57, n58, n59, n60, n61, n62, j15_h0_open, n63, n64, n65, n66, n67, n68, n69, n70, n71, n72), ⟨⟨b_j15_h0_open, bn65, bn66, bn67, bn68, bn69, bn70, bn71⟩, by rw [ht]; exact hXX.moved hW.alike⟩, va_P.he ht.symm hP9, va_K.moved hW.alike hK, hD9⟩, hS.F ht⟩) hS.2.2
        obtain ⟨n73, n74, n75, n76, n77, n78, n79, n80, n81, n82, hq9r⟩ := u
        obtain ⟨n83, n84, n85, n86, n87, n88, n89⟩ := hq9r
        try dsimp only at hw
        obtain ⟨bn82, bn83, bn84, bn85, bn86, bn87, bn88, xr55⟩ := hw
        try clear hw
        have or55 := hsk
        obtain ⟨hsk, tr55, hpy, hX, wr55, mr55⟩ := xr55
        have yr55 := pX_len hX
        rw [sl_len, sl_len] at yr55
        have dr55 := sk_is hsk
        have v37 := pvc_pos (g := n78) (f := h0_waitingCount.toInt.toNat) (n84.toInt - h0_waitingCount.toInt).toNat
        obtain ⟨hP1, hK1, hD1⟩ := hB
        replace hP1 := va_P.he ht hP1
        obtain ⟨hP, hD⟩ := va_join (wr := []) (w1 := (wz_121 h0 gl fu pa pf sf pk pg pp pz pv n81 n80 sc n82 j15_h0_open n83 wg wp n84 sc tr (sg sa n87) n86 n88 n89 ss sp szs sv sc_length n85 tr tx tr_length ss css (fun j => (gss j).map (sg sa)) sp csp gsp szs cszs gszs sv csv gsv pk cpk n74 pg cpg (fun j => (n73 j).map (sg sa)) pp cpp n75 pz cpz n77 pv cpv n76 wg cwg (fun j => (n78 j).map (sg sa)) wp cwp n79)) hP hD [0, 1, 2, 3, 4, 5, 6, 7, 8, 9, 10, 11, 12, 13] [] rfl rfl (by decide) (by decide) hk1 hFc hP1 hD1
        clear hPc hDc hKc hFc hz1 hk1 hP1 hK1 hD1
        rename Heap => H
        have hP : va_P (dC, dI) cls (wz_121 h0 gl fu pa pf sf pk pg pp pz pv n81 n80 sc n82 j15_h0_open n83 wg wp n84 sc tr (sg sa n87) n86 n88 n89 ss sp szs sv sc_length n85 tr tx tr_length ss css (fun j => (gss j).map (sg sa)) sp csp gsp szs cszs gszs sv csv gsv pk cpk n74 pg cpg (fun j => (n73 j).map (sg sa)) pp cpp n75 pz cpz n77 pv cpv n76 wg cwg (fun j => (n78 j).map (sg sa)) wp cwp n79) H := hP
        have hD : va_D A (wz_121 h0 gl fu pa pf sf pk pg pp pz pv n81 n80 sc n82 j15_h0_open n83 wg wp n84 sc tr (sg sa n87) n86 n88 n89 ss sp szs sv sc_length n85 tr tx tr_length ss css (fun j => (gss j).map (sg sa)) sp csp gsp szs cszs gszs sv csv gsv pk cpk n74 pg cpg (fun j => (n73 j).map (sg sa)) pp cpp n75 pz cpz n77 pv cpv n76 wg cwg (fun j => (n78 j).map (sg sa)) wp cwp n79) := hD
        refine lv_aload_n hx hb d_PR_readX_40 rfl (lv_at hl 0 rfl) ?_
        have hPc := hP.sb (wq := (wz_121 h0 gl fu pa pf sf pk pg pp pz pv n81 n80 sc n82 j15_h0_open n83 wg wp n84 sc tr (sg sa n87) n86 n88 n89 ss sp szs sv sc_length n85 tr tx tr_length ss css (fun j => (gss j).map (sg sa)) sp csp gsp szs cszs gszs sv csv gsv pk cpk n74 pg cpg (fun j => (n73 j).map (sg sa)) pp cpp n75 pz cpz n77 pv cpv n76 wg cwg (fun j => (n78 j).map (sg sa)) wp cwp n79)) [0, 1, 2, 3, 4, 5, 6, 7, 8, 9, 10, 11, 12, 13] rfl
        have hDc := hD.sb (wq := (wz_121 h0 gl fu pa pf sf pk pg pp pz pv n81 n80 sc n82 j15_h0_open n83 wg wp n84 sc tr (sg sa n87) n86 n88 n89 ss sp szs sv sc_length n85 tr tx tr_length ss css (fun j => (gss j).map (sg sa)) sp csp gsp szs cszs gszs sv csv gsv pk cpk n74 pg cpg (fun j => (n73 j).map (sg sa)) pp cpp n75 pz cpz n77 pv cpv n76 wg cwg (fun j => (n78 j).map (sg sa)) wp cwp n79)) [0, 1, 2, 3, 4, 5, 6, 7, 8, 9, 10, 11, 12, 13] (by decide) rfl
        have hKc := hK.sb (tyq := [(css, .object "WaferForge$Sign"), (csp, .int), (cszs, .int), (csv, .long), (cpk, .int), (cpg, .object "WaferForge$Sign"), (cpp, .int), (cpz, .int), (cpv, .long), (cwg, .object "WaferForge$Sign"), (cwp, .int)]) [0, 1, 2, 3, 4, 5, 6, 7, 8, 9, 10] rfl
        have hFc := va_free (wc := (wz_121 h0 gl fu pa pf sf pk pg pp pz pv n81 n80 sc n82 j15_h0_open n83 wg wp n84 sc tr (sg sa n87) n86 n88 n89 ss sp szs sv sc_length n85 tr tx tr_length ss css (fun j => (gss j).map (sg sa)) sp csp gsp szs cszs gszs sv csv gsv pk cpk n74 pg cpg (fun j => (n73 j).map (sg sa)) pp cpp n75 pz cpz n77 pv cpv n76 wg cwg (fun j => (n78 j).map (sg sa)) wp cwp n79)) hD hS hA [0, 1, 2, 3, 4, 5, 6, 7, 8, 9, 10, 11, 12, 13] rfl
        refine tq_callv (tz_runV (As := []) (rest := []) ⟨hx, hb, hml, hown, hts⟩ (c_PR_readU l hlt dC dI H.size sa h0 gl fu pa pf sf pk pg pp pz pv sc wg wp tr ss sp szs sv tx css csp cszs csv cpk cpg cpp cpz cpv cwg cwp n81 n80 n82 j15_h0_open n83 n84 n87 n86 n88 n89 sc_length n85 tr_length gss gsp gszs gsv n74 n73 n75 n77 n76 n78 n79 dep hK_readX (bn82) (b_j15_h0_open) (bn83) (bn84) (bn87) (bn86) (bn88) (b_sc_length) (bn85) (b_tr_length) (hsk) (by (try dsimp only) <;> (first | (apply Int.le_antisymm <;> omega) | omega)) (by (try dsimp only) <;> (first | (apply Int.le_antisymm <;> omega) | omega)) (by (try dsimp only) <;> (first | (apply Int.le_antisymm <;> omega) | omega)) (by (try dsimp only) <;> (first | (apply Int.le_antisymm <;> omega) | omega))) (cwV 0 hts (gV kM_PR_238 kV_PR_readU kS_PR_readU kI_PR kC_PR_readU) rfl rfl rfl (by decide +kernel) ⟨(show 5 * dep + 19 + 1 ≤ 5 * (dep + 1) + 15 from by (first | (apply Int.le_antisymm <;> omega) | omega)), (show 8 + (3 + 11) + (120 * dep + 390) ≤ 120 * (dep + 1) + 300 from by (first | (apply Int.le_antisymm <;> omega) | omega))⟩) ⟨fun a U g mk z => by obtain ⟨z0, z1, zP, zK, zD, zS⟩ := z; exact ⟨z0, z1, zP, va_K.moved (u := U) (U := U.calling g mk a) (Vm.Alike.refl U.vm) zK, zD, sw.same (u := U) (U := U.calling g mk a) rfl zS⟩, va_recv hKc hPc (ci := 6) (q0 := 0) rfl rfl, fun U hU hW => ⟨rfl, by rw [hU], va_P.he hU.symm hPc, va_K.moved hW.alike hKc, hDc.weaken (fun _ _ _ _ => trivial), hSW.call hS hFc hW hU⟩⟩ rfl rfl hl.1 rfl (lv_room (Nat.le_of_ble_eq_true rfl)) d_PR_readX_41 ⟨Nat.le_of_ble_eq_true rfl, Nat.le_of_ble_eq_true rfl⟩) hS (fun q _ h => hFc q h) hFc (fun u t H1 locs ht hvm hw hB hz1 hk1 hS => ?_) (fun xx u t H1 locs ht hvm hw hXX hB hz1 hk1 hS => ?_)
        rotate_left
        · skip
          obtain ⟨n91, n92, n93, n94, n95, n96, n97, n98, n99, n100, hq9r⟩ := u
          obtain ⟨n101, n102, n103, n104, n105, n106, n107, n108⟩ := hq9r
          try dsimp only at hw
          obtain ⟨bn98, bn101, bn102, bn103, bn104, bn105, bn106, bn107⟩ := hw
          obtain ⟨hP1, hK1, hD1⟩ := hB
          replace hP1 := va_P.he ht hP1
          obtain ⟨hP, hD⟩ := va_join (wr := []) (w1 := (wz_121 h0 gl fu pa pf sf pk pg pp pz pv n100 n99 sc n101 n98 n102 wg wp n103 sc tr (sg sa n106) n105 n107 n108 ss sp szs sv sc_length n104 tr tx tr_length ss css (fun j => (gss j).map (sg sa)) sp csp gsp szs cszs gszs sv csv gsv pk cpk n92 pg cpg (fun j => (n91 j).map (sg sa)) pp cpp n93 pz cpz n95 pv cpv n94 wg cwg (fun j => (n96 j).map (sg sa)) wp cwp n97)) hP hD [0, 1, 2, 3, 4, 5, 6, 7, 8, 9, 10, 11, 12, 13] [] rfl rfl (by decide) (by decide) hk1 hFc hP1 hD1
          have hP : va_P (dC, dI) cls (wz_121 h0 gl fu pa pf sf pk pg pp pz pv n100 n99 sc n101 n98 n102 wg wp n103 sc tr (sg sa n106) n105 n107 n108 ss sp szs sv sc_length n104 tr tx tr_length ss css (fun j => (gss j).map (sg sa)) sp csp gsp szs cszs gszs sv csv gsv pk cpk n92 pg cpg (fun j => (n91 j).map (sg sa)) pp cpp n93 pz cpz n95 pv cpv n94 wg cwg (fun j => (n96 j).map (sg sa)) wp cwp n97) H1 := hP
          have hD : va_D A (wz_121 h0 gl fu pa pf sf pk pg pp pz pv n100 n99 sc n101 n98 n102 wg wp n103 sc tr (sg sa n106) n105 n107 n108 ss sp szs sv sc_length n104 tr tx tr_length ss css (fun j => (gss j).map (sg sa)) sp csp gsp szs cszs gszs sv csv gsv pk cpk n92 pg cpg (fun j => (n91 j).map (sg sa)) pp cpp n93 pz cpz n95 pv cpv n94 wg cwg (fun j => (n96 j).map (sg sa)) wp cwp n97) := hD
          have hP9 := hP.sb (wq := (wz_121 h0 gl fu pa pf sf pk pg pp pz pv n100 n99 sc n101 n98 n102 wg wp n103 sc tr (sg sa n106) n105 n107 n108 ss sp szs sv sc_length n104 tr tx tr_length ss css (fun j => (gss j).map (sg sa)) sp csp gsp szs cszs gszs sv csv gsv pk cpk n92 pg cpg (fun j => (n91 j).map (sg sa)) pp cpp n93 pz cpz n95 pv cpv n94 wg cwg (fun j => (n96 j).map (sg sa)) wp cwp n97)) [0, 1, 2, 3, 4, 5, 6, 7, 8, 9, 10, 11, 12, 13] rfl
          have hD9 := hD.sb (wq := (wz_121 h0 gl fu pa pf sf pk pg pp pz pv n100 n99 sc n101 n98 n102 wg wp n103 sc tr (sg sa n106) n105 n107 n108 ss sp szs sv sc_length n104 tr tx tr_length ss css (fun j => (gss j).map (sg sa)) sp csp gsp szs cszs gszs sv csv gsv pk cpk n92 pg cpg (fun j => (n91 j).map (sg sa)) pp cpp n93 pz cpz n95 pv cpv n94 wg cwg (fun j => (n96 j).map (sg sa)) wp cwp n97)) [0, 1, 2, 3, 4, 5, 6, 7, 8, 9, 10, 11, 12, 13] (by decide) rfl
          exact tz_leave rfl hno hlocks (fun t ht hW => ⟨⟨(n91, n92, n93, n94, n95, n96, n97, n98, n99, n100, n101, n102, n103, n104, n105, n106, n107, n108), ⟨⟨bn98, bn101, bn102, bn103, bn104, bn105, bn106, bn107⟩, by rw [ht]; exact hXX.moved hW.alike⟩, va_P.he ht.symm hP9, va_K.moved hW.alike hK, hD9⟩, hS.F ht⟩) hS.2.2
        obtain ⟨n109, n110, n111, n112, n113, n114, n115, n116, n117, n118, hq9r⟩ := u
        obtain ⟨n119, n120, n121, n122, n123, n124, n125, n126⟩ := hq9r
        try dsimp only at hw
        obtain ⟨bn116, bn119, bn120, bn121, bn122, bn123, bn124, bn125, xr90⟩ := hw
        try clear hw
        have or90 := hsk
        obtain ⟨hsk, Xr90, ar90, cr90, wr90, mr90⟩ := xr90
        have nr90 := pX_n Xr90 (by (first | (apply Int.le_antisymm <;> omega) | omega)) (by (first | (apply Int.le_antisymm <;> omega) | omega))
        have dr90 := sk_is hsk
        have hX := pX_comp hX Xr90 (fun S q => ls_pw q hpy (by (first | (apply Int.le_antisymm <;> omega) | omega)) (by unfold ph; (first | (apply Int.le_antisymm <;> omega) | omega)))
        have p41 := pvc_wk wr90 (f := h0_waitingCount.toInt.toNat) (n84.toInt - h0_waitingCount.toInt).toNat (by (first | (apply Int.le_antisymm <;> omega) | omega))
        have hpy := py_wk wr90 (f := h0_waitingCount.toInt.toNat) (i := (n84.toInt - h0_waitingCount.toInt).toNat) (by (first | (apply Int.le_antisymm <;> omega) | omega)) hpy
        obtain ⟨hP1, hK1, hD1⟩ := hB
        replace hP1 := va_P.he ht hP1
        obtain ⟨hP, hD⟩ := va_join (wr := []) (w1 := (wz_121 h0 gl fu pa pf sf pk pg pp pz pv n118 n117 sc n119 n116 n120 wg wp n121 sc tr (sg sa n124) n123 n125 n126 ss sp szs sv sc_length n122 tr tx tr_length ss css (fun j => (gss j).map (sg sa)) sp csp gsp szs cszs gszs sv csv gsv pk cpk n110 pg cpg (fun j => (n109 j).map (sg sa)) pp cpp n111 pz cpz n113 pv cpv n112 wg cwg (fun j => (n114 j).map (sg sa)) wp cwp n115)) hP hD [0, 1, 2, 3, 4, 5, 6, 7, 8, 9, 10, 11, 12, 13] [] rfl rfl (by decide) (by decide) hk1 hFc hP1 hD1
        clear hPc hDc hKc hFc hz1 hk1 hP1 hK1 hD1
        rename Heap => H
        have hP : va_P (dC, dI) cls (wz_121 h0 gl fu pa pf sf pk pg pp pz pv n118 n117 sc n119 n116 n120 wg wp n121 sc tr (sg sa n124) n123 n125 n126 ss sp szs sv sc_length n122 tr tx tr_length ss css (fun j => (gss j).map (sg sa)) sp csp gsp szs cszs gszs sv csv gsv pk cpk n110 pg cpg (fun j => (n109 j).map (sg sa)) pp cpp n111 pz cpz n113 pv cpv n112 wg cwg (fun j => (n114 j).map (sg sa)) wp cwp n115) H := hP
        have hD : va_D A (wz_121 h0 gl fu pa pf sf pk pg pp pz pv n118 n117 sc n119 n116 n120 wg wp n121 sc tr (sg sa n124) n123 n125 n126 ss sp szs sv sc_length n122 tr tx tr_length ss css (fun j => (gss j).map (sg sa)) sp csp gsp szs cszs gszs sv csv gsv pk cpk n110 pg cpg (fun j => (n109 j).map (sg sa)) pp cpp n111 pz cpz n113 pv cpv n112 wg cwg (fun j => (n114 j).map (sg sa)) wp cwp n115) := hD
        obtain ⟨x127, ex127⟩ : ∃ z : Int32, z = j15_l2 + 1 := ⟨_, rfl⟩
        have tx127 : x127.toInt = j15_l2.toInt + 1 := by have z := i32_add ex127 (by (first | (apply Int.le_antisymm <;> omega) | omega)) (by (first | (apply Int.le_antisymm <;> omega) | omega)); first | exact z | (first | (apply Int.le_antisymm <;> omega) | omega)
        refine lv_iinc (v := x127) (lv' := [(2, .int x127), (0, .ref h0), (1, .int h0_waitingCount)]) hx hb d_PR_readX_44 hl (k := 2) rfl (by rw [ex127]; rfl) (by decide) rfl (fun ls hl => ?_)
        refine lv_goto (tgt := 15) hx hb d_PR_readX_47 (by decide) ?_
        exact ih15 (x127, n109, n110, n111, n112, n113, n114, n115, n116, n117, n118, n119, n120, n121, n122, n123, n124, n125, n126) _ _ _ (by show (201 - x127.toInt).toNat < N15; (first | (apply Int.le_antisymm <;> omega) | omega)) ⟨bn116, bn119, bn120, bn121, bn122, bn123, bn124, bn125, hsk, by (try dsimp only) <;> (first | (apply Int.le_antisymm <;> omega) | omega), pX_mono (pX_eq hX (fun S => by rw [show (n121.toInt - h0_waitingCount.toInt).toNat = (n84.toInt - h0_waitingCount.toInt).toNat from by (first | (apply Int.le_antisymm <;> omega) | omega), pw_wk wr90 _ (by (first | (apply Int.le_antisymm <;> omega) | omega))])) (Int.le_refl _) (by rw [show (n121.toInt - h0_waitingCount.toInt).toNat = (n84.toInt - h0_waitingCount.toInt).toNat from by (first | (apply Int.le_antisymm <;> omega) | omega), p41]; (try dsimp only) <;> (first | (apply Int.le_antisymm <;> omega) | omega)), (by rw [show (n121.toInt - h0_waitingCount.toInt).toNat = (n84.toInt - h0_waitingCount.toInt).toNat from by (first | (apply Int.le_antisymm <;> omega) | omega)]; exact hpy), wk_tr (wk_tr hwk wr55 (Int.le_refl _)) wr90 (by (first | (apply Int.le_antisymm <;> omega) | omega)), hP, hD, hS, lv_sub hl [1, 2, 0] rfl⟩
theorem k_readX (l : Launch) (hlt : l.stackTraces = false) : ∀ dep, k_PR_readX l dep := by
  intro dep
  induction dep with
  | zero =>
    intro dC dI sz sa h0 gl fu pa pf sf pk pg pp pz pv sc wg wp tr ss sp szs sv tx css csp cszs csv cpk cpg cpp cpz cpv cwg cwp h0_reason h0_place h0_stepCount h0_open h0_twoSides h0_waitingCount sc_sign sc_place sc_size sc_value sc_length sc_at tr_length gss gsp gszs gsv gpk gpg gpp gpz gpv gwg gwp b_h0_stepCount b_h0_open b_h0_twoSides b_h0_waitingCount b_sc_sign b_sc_place b_sc_size b_sc_length b_sc_at b_tr_length hsk hst hdp hwc
    exfalso
    (first | (apply Int.le_antisymm <;> omega) | omega)
  | succ dep ih =>
    intro dC dI sz sa h0 gl fu pa pf sf pk pg pp pz pv sc wg wp tr ss sp szs sv tx css csp cszs csv cpk cpg cpp cpz cpv cwg cwp h0_reason h0_place h0_stepCount h0_open h0_twoSides h0_waitingCount sc_sign sc_place sc_size sc_value sc_length sc_at tr_length gss gsp gszs gsv gpk gpg gpp gpz gpv gwg gwp b_h0_stepCount b_h0_open b_h0_twoSides b_h0_waitingCount b_sc_sign b_sc_place b_sc_size b_sc_length b_sc_at b_tr_length hsk hst hdp hwc
    exact c_PR_readX l hlt dC dI sz sa h0 gl fu pa pf sf pk pg pp pz pv sc wg wp tr ss sp szs sv tx css csp cszs csv cpk cpg cpp cpz cpv cwg cwp h0_reason h0_place h0_stepCount h0_open h0_twoSides h0_waitingCount sc_sign sc_place sc_size sc_value sc_length sc_at tr_length gss gsp gszs gsv gpk gpg gpp gpz gpv gwg gwp dep ih b_h0_stepCount b_h0_open b_h0_twoSides b_h0_waitingCount b_sc_sign b_sc_place b_sc_size b_sc_length b_sc_at b_tr_length hsk hst hdp hwc
end q_51
